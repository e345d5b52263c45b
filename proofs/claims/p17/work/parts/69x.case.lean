/-! whole cases of the law (printed by fn4.py) -/
section
variable {d mi pc len : Nat} {L : MLoc} {st : List Value} {M : Mem} {Q : Option Value → Mem → Prop}
/-- an int of the script, as it was read -/
theorem kArg {s : List Int32} {γ : Gh} {c ln : Nat} {ci : Int} {l3 : Int32} (h1 : mAt 282 pc = some (1, .aload 0)) (h2 : mAt 282 (pc + 1) = some (1, .iload 3)) (h3 : mAt 282 (pc + 1 + 1) = some (ln, .iconst ci)) (h4 : mAt 282 (pc + 1 + 1 + ln) = some (1, .iadd)) (h5 : mAt 282 (pc + 1 + 1 + ln + 1) = some (1, .iaload)) (hc : (Int32.ofInt ci).toInt = (c : Int)) (hc1 : 1 ≤ c) (hc8 : c ≤ 8) (l0 : mLd L 0 = some (.ref 0)) (hl3 : mLd L 3 = some (.int l3)) (hT : aTp s M) (h8 : x8 (s, γ)) (q0 : (γ 1010 0).toInt = l3.toInt) (b0 : 0 ≤ l3.toInt) (b9 : l3.toInt + 9 ≤ (s.length : Int)) (b5 : s.length ≤ 576) (k : Ok d 282 (pc + 1 + 1 + ln + 1 + 1) L (.int (γ 1011 c) :: st) M Q) : Ok d 282 pc L st M Q := by
  have e8 := h8.1 (by show 0 ≤ (γ 1010 0).toInt; omega) c hc1 hc8
  have e8 : s[(γ 1010 0).toInt.toNat + c]? = some (γ 1011 c) := e8
  have ea : (l3 + Int32.ofInt ci).toInt = l3.toInt + c := by
    rw [i32_add (by omega) (by omega), hc]
  have hk : (l3 + Int32.ofInt ci).toInt.toNat < s.length := by omega
  have sl := scr_slot hT hk
  rw [List.getElem?_eq_getElem (by omega)] at e8
  have e9 : s[(l3 + Int32.ofInt ci).toInt.toNat] = γ 1011 c := by
    rw [← Option.some.inj e8]
    congr 1
    omega
  rw [e9] at sl
  refine kAload (len := 1) (i := 0) h1 l0 ?_
  refine kIload (len := 1) (i := 3) h2 hl3 ?_
  refine kIconst h3 ?_
  refine kAdd h4 ?_
  refine kIald (n := s.length) h5 (scr_hd hT) (by omega) (by omega) sl ?_
  exact k
/-- a call of a public method: its contract, and what its run shows backwards -/
theorem kCallC {s : List Int32} {γ : Gh} {σ : Nat → Int} {ins : Instr} {j : Nat} {as rest : List Value} {c : CT} {R : Option Value → Mem → Prop} (hs : cSound s c) (cj : c.1 = j) (c0 : c.2.1 = 0) (hat : mAt mi pc = some (len, ins)) (hi : ins = .invokestatic j ∨ ins = .invokevirtual j ∨ ins = .invokespecial j) (h9 : ¬ 900 ≤ j) (hc : mCall d j st M = some (as, rest)) (hd : c.2.2.1 ≤ d - 1) (hH : aHold (s, γ) σ c.2.2.2.1 (lv_args 0 as) [] M) (f : ∀ n d' r' M', En n d' j 0 (lv_args 0 as) [] M r' M' → R r' M') (k : ∀ r' M' γ', R r' M' → aFr c.2.2.2.2.2 M M' → gFr c.2.2.2.2.2 γ γ' → aMem (s, γ') M' → Ok d mi (pc + len) L (r'.toList ++ rest) M' Q) : Ok d mi pc L st M Q := by
  subst cj
  refine Ok.call hat hi h9 hc ?_
  have h := hs γ (d - 1) σ (lv_args 0 as) M hd hH
  rw [c0] at h
  refine Ok.en h ?_
  intro n r' M' hE hq
  obtain ⟨hf, γ', hg, o, _, σ', _, hO⟩ := hq
  exact k r' M' γ' (f _ _ _ _ hE) hf hg hO.2.2.2
end
theorem bIn3_true {x : Int32} (h : bIn x 3 = true) : 0 ≤ x.toInt ∧ x.toInt < 3 := bIn_true h
theorem rIn2_true {x : Int32} (h : rIn x 0 2 = true) : 0 ≤ x.toInt ∧ x.toInt < 3 := bIn_true ((rIn_eq2 x).symm.trans h)
theorem rStr_true {x : Int32} (h : rStr x = true) : 0 ≤ x.toInt ∧ x.toInt < 8 := bStr_true h
theorem rPer_true {x : Int32} (h : rPer x = true) : 0 ≤ x.toInt ∧ x.toInt < 10 := bPer_true h
theorem stripC_ok {x o l : Int32} {d : Nat} {s : List Int32} {M : Mem} (hd : 3 ≤ d) (hT : aTp s M) : Ok d 110 0 (lv_args 0 [.ref 2, .int x, .int o, .int l]) [] M (fun r M' => r = some (.int (b2 (bStr x && (bPer o && bIn l 3)))) ∧ M' = (bif bStr x && (bPer o && bIn l 3) then mPut (mPut M 5 x.toInt.toNat (.int o)) 6 x.toInt.toNat (.int l) else M)) := by
  refine kIload (mi := 110) (pc := 0) (len := 1) (i := 1) rfl rfl ?_
  refine kCallP (mi := 110) (pc := 1) (len := 3) (j := 150) rfl (Or.inl rfl) (by decide) (mCall_ok (n := 1) (l := 1) (rk := 2) (own := 10) (kd := 0) (as := [.int x]) (rest := []) (by omega) (by decide) rfl rfl rfl rfl rfl rfl (Or.inl rfl)) (bStr_ok (by omega)) ?_
  rcases Bool.eq_false_or_eq_true (mCond .eq (b2 (bStr x)) 0) with hc1 | hc1
  · have c1 := hc1
    replace c1 : bStr x = false := mB_eq.1 c1
    refine kIfT (mi := 110) (pc := 4) (len := 3) (t := 22) rfl rfl hc1 ?_
    refine kIconst (mi := 110) (pc := 22) (len := 1) (v := 0) rfl ?_
    refine kRetI (mi := 110) (pc := 23) (len := 1) rfl (Or.inr ⟨rfl, Or.inl rfl⟩) ?_
    have e3 : (bStr x && (bPer o && bIn l 3)) = false := by simp only [c1, Bool.true_and, Bool.false_and, Bool.and_true, Bool.and_false]
    rw [e3]
    exact ⟨rfl, rfl⟩
  · have c1 := hc1
    replace c1 : bStr x = true := mB_eq.2 c1

    refine kIfF (mi := 110) (pc := 4) (len := 3) (t := 22) rfl rfl hc1 ?_
    refine kIload (mi := 110) (pc := 7) (len := 1) (i := 2) rfl rfl ?_
    refine kCallP (mi := 110) (pc := 8) (len := 3) (j := 149) rfl (Or.inl rfl) (by decide) (mCall_ok (n := 1) (l := 1) (rk := 2) (own := 10) (kd := 0) (as := [.int o]) (rest := []) (by omega) (by decide) rfl rfl rfl rfl rfl rfl (Or.inl rfl)) (bPer_ok (by omega)) ?_
    rcases Bool.eq_false_or_eq_true (mCond .eq (b2 (bPer o)) 0) with hc2 | hc2
    · have c2 := hc2
      replace c2 : bPer o = false := mB_eq.1 c2
      refine kIfT (mi := 110) (pc := 11) (len := 3) (t := 22) rfl rfl hc2 ?_
      refine kIconst (mi := 110) (pc := 22) (len := 1) (v := 0) rfl ?_
      refine kRetI (mi := 110) (pc := 23) (len := 1) rfl (Or.inr ⟨rfl, Or.inl rfl⟩) ?_
      have e3 : (bStr x && (bPer o && bIn l 3)) = false := by simp only [c1, c2, Bool.true_and, Bool.false_and, Bool.and_true, Bool.and_false]
      rw [e3]
      exact ⟨rfl, rfl⟩
    · have c2 := hc2
      replace c2 : bPer o = true := mB_eq.2 c2

      refine kIfF (mi := 110) (pc := 11) (len := 3) (t := 22) rfl rfl hc2 ?_
      refine kIload (mi := 110) (pc := 14) (len := 1) (i := 3) rfl rfl ?_
      refine kIconst (mi := 110) (pc := 15) (len := 1) (v := 3) rfl ?_
      refine kCallP (mi := 110) (pc := 16) (len := 3) (j := 148) rfl (Or.inl rfl) (by decide) (mCall_ok (n := 2) (l := 2) (rk := 2) (own := 10) (kd := 0) (as := [.int l, .int (3 : Int32)]) (rest := []) (by omega) (by decide) rfl rfl rfl rfl rfl rfl (Or.inl rfl)) (bIn_ok (by omega)) ?_
      rcases Bool.eq_false_or_eq_true (mCond .ne (b2 (bIn l (3 : Int32))) 0) with hc3 | hc3
      · have c3 := hc3
        replace c3 : bIn l (3 : Int32) = true := mB_ne.1 c3

        refine kIfT (mi := 110) (pc := 19) (len := 3) (t := 24) rfl rfl hc3 ?_
        have gc1 := bStr_true c1
        have gc2 := bPer_true c2
        have gc3 := bIn3_true c3
        refine kAload (mi := 110) (pc := 24) (len := 1) (i := 0) rfl rfl ?_
        refine kGetf (mi := 110) (pc := 25) (len := 3) (j := 1000) rfl (hT.hd (c := 2) (by decide) (by decide)) (by decide) (hT.ref (c := 2) (i := 0) (g := 3) (by decide) (by decide) (by decide) (lo := 0) (hi' := 0) rfl rfl) ?_
        refine kGetf (mi := 110) (pc := 28) (len := 3) (j := 901) rfl (hT.hd (c := 3) (by decide) (by decide)) (by decide) (hT.ref (c := 3) (i := 1) (g := 5) (by decide) (by decide) (by decide) (lo := 0) (hi' := 0) rfl rfl) ?_
        refine kIload (mi := 110) (pc := 31) (len := 1) (i := 1) rfl rfl ?_
        refine kIload (mi := 110) (pc := 32) (len := 1) (i := 2) rfl rfl ?_
        refine kIast (mi := 110) (pc := 33) (len := 1) (n := 8) rfl (hT.hd (c := 5) (by decide) (by decide)) (by decide) (by show (0 : Int) ≤ x.toInt; omega) (by show x.toInt < 8; omega) ?_
        have hT4 := hT.put (a := 5) (i := x.toInt.toNat) (v := .int o) (by decide) (by decide) (show aTy (tTy (tGrp 5) _) _ from ⟨o, rfl, by show (0 : Int) ≤ _; omega, by show _ ≤ (9 : Int); omega⟩)
        refine kAload (mi := 110) (pc := 34) (len := 1) (i := 0) rfl rfl ?_
        refine kGetf (mi := 110) (pc := 35) (len := 3) (j := 1000) rfl (hT4.hd (c := 2) (by decide) (by decide)) (by decide) (hT4.ref (c := 2) (i := 0) (g := 3) (by decide) (by decide) (by decide) (lo := 0) (hi' := 0) rfl rfl) ?_
        refine kGetf (mi := 110) (pc := 38) (len := 3) (j := 902) rfl (hT4.hd (c := 3) (by decide) (by decide)) (by decide) (hT4.ref (c := 3) (i := 2) (g := 6) (by decide) (by decide) (by decide) (lo := 0) (hi' := 0) rfl rfl) ?_
        refine kIload (mi := 110) (pc := 41) (len := 1) (i := 1) rfl rfl ?_
        refine kIload (mi := 110) (pc := 42) (len := 1) (i := 3) rfl rfl ?_
        refine kIast (mi := 110) (pc := 43) (len := 1) (n := 8) rfl (hT4.hd (c := 6) (by decide) (by decide)) (by decide) (by show (0 : Int) ≤ x.toInt; omega) (by show x.toInt < 8; omega) ?_
        have hT5 := hT4.put (a := 6) (i := x.toInt.toNat) (v := .int l) (by decide) (by decide) (show aTy (tTy (tGrp 6) _) _ from ⟨l, rfl, by show (0 : Int) ≤ _; omega, by show _ ≤ (2 : Int); omega⟩)
        refine kIconst (mi := 110) (pc := 44) (len := 1) (v := 1) rfl ?_
        refine kRetI (mi := 110) (pc := 45) (len := 1) rfl (Or.inr ⟨rfl, Or.inr rfl⟩) ?_
        have e3 : (bStr x && (bPer o && bIn l 3)) = true := by simp only [c1, c2, c3, Bool.true_and, Bool.false_and, Bool.and_true, Bool.and_false]
        rw [e3]
        exact ⟨rfl, rfl⟩
      · have c3 := hc3
        replace c3 : bIn l (3 : Int32) = false := mB_ne.2 c3
        refine kIfF (mi := 110) (pc := 19) (len := 3) (t := 24) rfl rfl hc3 ?_
        refine kIconst (mi := 110) (pc := 22) (len := 1) (v := 0) rfl ?_
        refine kRetI (mi := 110) (pc := 23) (len := 1) rfl (Or.inr ⟨rfl, Or.inl rfl⟩) ?_
        have e3 : (bStr x && (bPer o && bIn l 3)) = false := by simp only [c1, c2, c3, Bool.true_and, Bool.false_and, Bool.and_true, Bool.and_false]
        rw [e3]
        exact ⟨rfl, rfl⟩
theorem stripR_ok {x o l : Int32} {d : Nat} {s : List Int32} {M : Mem} (hd : 3 ≤ d) (hT : aTp s M) : Ok d 166 0 (lv_args 0 [.ref 181, .int x, .int o, .int l]) [] M (fun r M' => r = some (.int (b2 (rStr x && (rPer o && rIn l 0 2)))) ∧ M' = (bif rStr x && (rPer o && rIn l 0 2) then mPut (mPut M 183 x.toInt.toNat (.int o)) 184 x.toInt.toNat (.int l) else M)) := by
  refine kIload (mi := 166) (pc := 0) (len := 1) (i := 1) rfl rfl ?_
  refine kCallP (mi := 166) (pc := 1) (len := 3) (j := 163) rfl (Or.inl rfl) (by decide) (mCall_ok (n := 1) (l := 1) (rk := 2) (own := 11) (kd := 0) (as := [.int x]) (rest := []) (by omega) (by decide) rfl rfl rfl rfl rfl rfl (Or.inl rfl)) (rStr_ok (by omega)) ?_
  rcases Bool.eq_false_or_eq_true (mCond .eq (b2 (rStr x)) 0) with hc1 | hc1
  · have c1 := hc1
    replace c1 : rStr x = false := mB_eq.1 c1
    refine kIfT (mi := 166) (pc := 4) (len := 3) (t := 23) rfl rfl hc1 ?_
    refine kIconst (mi := 166) (pc := 23) (len := 1) (v := 0) rfl ?_
    refine kRetI (mi := 166) (pc := 24) (len := 1) rfl (Or.inr ⟨rfl, Or.inl rfl⟩) ?_
    have e3 : (rStr x && (rPer o && rIn l 0 2)) = false := by simp only [c1, Bool.true_and, Bool.false_and, Bool.and_true, Bool.and_false]
    rw [e3]
    exact ⟨rfl, rfl⟩
  · have c1 := hc1
    replace c1 : rStr x = true := mB_eq.2 c1

    refine kIfF (mi := 166) (pc := 4) (len := 3) (t := 23) rfl rfl hc1 ?_
    refine kIload (mi := 166) (pc := 7) (len := 1) (i := 2) rfl rfl ?_
    refine kCallP (mi := 166) (pc := 8) (len := 3) (j := 162) rfl (Or.inl rfl) (by decide) (mCall_ok (n := 1) (l := 1) (rk := 2) (own := 11) (kd := 0) (as := [.int o]) (rest := []) (by omega) (by decide) rfl rfl rfl rfl rfl rfl (Or.inl rfl)) (rPer_ok (by omega)) ?_
    rcases Bool.eq_false_or_eq_true (mCond .eq (b2 (rPer o)) 0) with hc2 | hc2
    · have c2 := hc2
      replace c2 : rPer o = false := mB_eq.1 c2
      refine kIfT (mi := 166) (pc := 11) (len := 3) (t := 23) rfl rfl hc2 ?_
      refine kIconst (mi := 166) (pc := 23) (len := 1) (v := 0) rfl ?_
      refine kRetI (mi := 166) (pc := 24) (len := 1) rfl (Or.inr ⟨rfl, Or.inl rfl⟩) ?_
      have e3 : (rStr x && (rPer o && rIn l 0 2)) = false := by simp only [c1, c2, Bool.true_and, Bool.false_and, Bool.and_true, Bool.and_false]
      rw [e3]
      exact ⟨rfl, rfl⟩
    · have c2 := hc2
      replace c2 : rPer o = true := mB_eq.2 c2

      refine kIfF (mi := 166) (pc := 11) (len := 3) (t := 23) rfl rfl hc2 ?_
      refine kIload (mi := 166) (pc := 14) (len := 1) (i := 3) rfl rfl ?_
      refine kIconst (mi := 166) (pc := 15) (len := 1) (v := 0) rfl ?_
      refine kIconst (mi := 166) (pc := 16) (len := 1) (v := 2) rfl ?_
      refine kCallP (mi := 166) (pc := 17) (len := 3) (j := 160) rfl (Or.inl rfl) (by decide) (mCall_ok (n := 3) (l := 3) (rk := 2) (own := 11) (kd := 0) (as := [.int l, .int (0 : Int32), .int (2 : Int32)]) (rest := []) (by omega) (by decide) rfl rfl rfl rfl rfl rfl (Or.inl rfl)) (rIn_ok (by omega)) ?_
      rcases Bool.eq_false_or_eq_true (mCond .ne (b2 (rIn l (0 : Int32) (2 : Int32))) 0) with hc3 | hc3
      · have c3 := hc3
        replace c3 : rIn l (0 : Int32) (2 : Int32) = true := mB_ne.1 c3

        refine kIfT (mi := 166) (pc := 20) (len := 3) (t := 25) rfl rfl hc3 ?_
        have gc1 := rStr_true c1
        have gc2 := rPer_true c2
        have gc3 := rIn2_true c3
        refine kAload (mi := 166) (pc := 25) (len := 1) (i := 0) rfl rfl ?_
        refine kGetf (mi := 166) (pc := 26) (len := 3) (j := 1103) rfl (hT.hd (c := 181) (by decide) (by decide)) (by decide) (hT.ref (c := 181) (i := 3) (g := 183) (by decide) (by decide) (by decide) (lo := 0) (hi' := 0) rfl rfl) ?_
        refine kIload (mi := 166) (pc := 29) (len := 1) (i := 1) rfl rfl ?_
        refine kIload (mi := 166) (pc := 30) (len := 1) (i := 2) rfl rfl ?_
        refine kIast (mi := 166) (pc := 31) (len := 1) (n := 8) rfl (hT.hd (c := 183) (by decide) (by decide)) (by decide) (by show (0 : Int) ≤ x.toInt; omega) (by show x.toInt < 8; omega) ?_
        have hT4 := hT.put (a := 183) (i := x.toInt.toNat) (v := .int o) (by decide) (by decide) (show aTy (tTy (tGrp 183) _) _ from ⟨o, rfl, by show (0 : Int) ≤ _; omega, by show _ ≤ (9 : Int); omega⟩)
        refine kAload (mi := 166) (pc := 32) (len := 1) (i := 0) rfl rfl ?_
        refine kGetf (mi := 166) (pc := 33) (len := 3) (j := 1104) rfl (hT4.hd (c := 181) (by decide) (by decide)) (by decide) (hT4.ref (c := 181) (i := 4) (g := 184) (by decide) (by decide) (by decide) (lo := 0) (hi' := 0) rfl rfl) ?_
        refine kIload (mi := 166) (pc := 36) (len := 1) (i := 1) rfl rfl ?_
        refine kIload (mi := 166) (pc := 37) (len := 1) (i := 3) rfl rfl ?_
        refine kIast (mi := 166) (pc := 38) (len := 1) (n := 8) rfl (hT4.hd (c := 184) (by decide) (by decide)) (by decide) (by show (0 : Int) ≤ x.toInt; omega) (by show x.toInt < 8; omega) ?_
        have hT5 := hT4.put (a := 184) (i := x.toInt.toNat) (v := .int l) (by decide) (by decide) (show aTy (tTy (tGrp 184) _) _ from ⟨l, rfl, by show (0 : Int) ≤ _; omega, by show _ ≤ (2 : Int); omega⟩)
        refine kIconst (mi := 166) (pc := 39) (len := 1) (v := 1) rfl ?_
        refine kRetI (mi := 166) (pc := 40) (len := 1) rfl (Or.inr ⟨rfl, Or.inr rfl⟩) ?_
        have e3 : (rStr x && (rPer o && rIn l 0 2)) = true := by simp only [c1, c2, c3, Bool.true_and, Bool.false_and, Bool.and_true, Bool.and_false]
        rw [e3]
        exact ⟨rfl, rfl⟩
      · have c3 := hc3
        replace c3 : rIn l (0 : Int32) (2 : Int32) = false := mB_ne.2 c3
        refine kIfF (mi := 166) (pc := 20) (len := 3) (t := 25) rfl rfl hc3 ?_
        refine kIconst (mi := 166) (pc := 23) (len := 1) (v := 0) rfl ?_
        refine kRetI (mi := 166) (pc := 24) (len := 1) rfl (Or.inr ⟨rfl, Or.inl rfl⟩) ?_
        have e3 : (rStr x && (rPer o && rIn l 0 2)) = false := by simp only [c1, c2, c3, Bool.true_and, Bool.false_and, Bool.and_true, Bool.and_false]
        rw [e3]
        exact ⟨rfl, rfl⟩
theorem rIn_b {v a b c : Int32} (hc : c.toInt = b.toInt + 1) (ha : a.toInt = 0) : rIn v a b = bIn v c := by
  unfold rIn bIn
  rw [ha]
  show (bif decide (v.toInt < 0) then false else (bif decide (b.toInt < v.toInt) then false else true)) = (bif decide (v.toInt < 0) then false else (bif decide (v.toInt < c.toInt) then true else false))
  by_cases q : v.toInt < 0
  · rw [decide_eq_true q]; rfl
  · rw [decide_eq_false q]
    by_cases w : b.toInt < v.toInt
    · rw [decide_eq_true w, decide_eq_false (show ¬ v.toInt < c.toInt by omega)]; rfl
    · rw [decide_eq_false w, decide_eq_true (show v.toInt < c.toInt by omega)]; rfl
theorem rIn8 (v : Int32) : rIn v 0 7 = bIn v 8 := rIn_b (by decide) (by decide)
theorem rIn100 (v : Int32) : rIn v 0 99 = bIn v 100 := rIn_b (by decide) (by decide)
theorem rIn101 (v : Int32) : rIn v 0 100 = bIn v 101 := rIn_b (by decide) (by decide)
theorem rInP (v : Int32) : rIn v 1 9999 = (!decide (v.toInt < 1) && decide (v.toInt < 10000)) := by
  unfold rIn
  show (bif decide (v.toInt < 1) then false else (bif decide (9999 < v.toInt) then false else true)) = _
  by_cases q : v.toInt < 1
  · rw [decide_eq_true q]; rfl
  · rw [decide_eq_false q]
    by_cases w : 9999 < v.toInt
    · rw [decide_eq_true w, decide_eq_false (show ¬ v.toInt < 10000 by omega)]; rfl
    · rw [decide_eq_false w, decide_eq_true (show v.toInt < 10000 by omega)]; rfl
theorem bIn8_true {x : Int32} (h : bIn x 8 = true) : 0 ≤ x.toInt ∧ x.toInt < 8 := bIn_true h
theorem bIn100_true {x : Int32} (h : bIn x 100 = true) : 0 ≤ x.toInt ∧ x.toInt < 100 := bIn_true h
theorem bIn101_true {x : Int32} (h : bIn x 101 = true) : 0 ≤ x.toInt ∧ x.toInt < 101 := bIn_true h
theorem rIn8_true {x : Int32} (h : rIn x 0 7 = true) : 0 ≤ x.toInt ∧ x.toInt < 8 := bIn8_true ((rIn8 x).symm.trans h)
theorem rIn100_true {x : Int32} (h : rIn x 0 99 = true) : 0 ≤ x.toInt ∧ x.toInt < 100 := bIn100_true ((rIn100 x).symm.trans h)
theorem rIn101_true {x : Int32} (h : rIn x 0 100 = true) : 0 ≤ x.toInt ∧ x.toInt < 101 := bIn101_true ((rIn101 x).symm.trans h)
theorem rDay_true {x : Int32} (h : rDay x = true) : 0 ≤ x.toInt ∧ x.toInt < 1000 := bDay_true ((rDay_eq x).symm.trans h)
theorem rInP_true {x : Int32} (h : rIn x 1 9999 = true) : 1 ≤ x.toInt ∧ x.toInt < 10000 := by
  rw [rInP] at h
  by_cases q : x.toInt < 1
  · rw [decide_eq_true q] at h; cases h
  · by_cases w : x.toInt < 10000
    · omega
    · rw [decide_eq_false w, Bool.and_false] at h; cases h
theorem buyC_ok {x t p u : Int32} {d : Nat} {s : List Int32} {M : Mem} (hd : 3 ≤ d) (hT : aTp s M) : Ok d 136 0 (lv_args 0 [.ref 2, .int x, .int t, .int p, .int u]) [] M (fun r M' => r = some (.int (b2 (bIn x 8 && (bDay t && (!decide (p.toInt < 1) && (decide (p.toInt < 10000) && bIn u 100)))))) ∧ M' = (bif bIn x 8 && (bDay t && (!decide (p.toInt < 1) && (decide (p.toInt < 10000) && bIn u 100))) then (mPut (mPut (mPut M 139 x.toInt.toNat (.int t)) 140 x.toInt.toNat (.int p)) 141 x.toInt.toNat (.int u)) else M)) := by
  refine kIload (mi := 136) (pc := 0) (len := 1) (i := 1) rfl rfl ?_
  refine kIconst (mi := 136) (pc := 1) (len := 2) (v := 8) rfl ?_
  refine kCallP (mi := 136) (pc := 3) (len := 3) (j := 148) rfl (Or.inl rfl) (by decide) (mCall_ok (n := 2) (l := 2) (rk := 2) (own := 10) (kd := 0) (as := [.int x, .int (8 : Int32)]) (rest := []) (by omega) (by decide) rfl rfl rfl rfl rfl rfl (Or.inl rfl)) (bIn_ok (by omega)) ?_
  rcases Bool.eq_false_or_eq_true (mCond .eq (b2 (bIn x (8 : Int32))) 0) with hc1 | hc1
  · have c1 := hc1
    replace c1 : bIn x (8 : Int32) = false := mB_eq.1 c1
    refine kIfT (mi := 136) (pc := 6) (len := 3) (t := 38) rfl rfl hc1 ?_
    refine kIconst (mi := 136) (pc := 38) (len := 1) (v := 0) rfl ?_
    refine kRetI (mi := 136) (pc := 39) (len := 1) rfl (Or.inr ⟨rfl, Or.inl rfl⟩) ?_
    have e3 : (bIn x 8 && (bDay t && (!decide (p.toInt < 1) && (decide (p.toInt < 10000) && bIn u 100)))) = false := by simp only [c1, Bool.true_and, Bool.false_and, Bool.and_true, Bool.and_false, Bool.not_true, Bool.not_false]
    rw [e3]
    exact ⟨rfl, rfl⟩
  · have c1 := hc1
    replace c1 : bIn x (8 : Int32) = true := mB_eq.2 c1
    refine kIfF (mi := 136) (pc := 6) (len := 3) (t := 38) rfl rfl hc1 ?_
    refine kIload (mi := 136) (pc := 9) (len := 1) (i := 2) rfl rfl ?_
    refine kCallP (mi := 136) (pc := 10) (len := 3) (j := 151) rfl (Or.inl rfl) (by decide) (mCall_ok (n := 1) (l := 1) (rk := 2) (own := 10) (kd := 0) (as := [.int t]) (rest := []) (by omega) (by decide) rfl rfl rfl rfl rfl rfl (Or.inl rfl)) (bDay_ok (by omega)) ?_
    rcases Bool.eq_false_or_eq_true (mCond .eq (b2 (bDay t)) 0) with hc2 | hc2
    · have c2 := hc2
      replace c2 : bDay t = false := mB_eq.1 c2
      refine kIfT (mi := 136) (pc := 13) (len := 3) (t := 38) rfl rfl hc2 ?_
      refine kIconst (mi := 136) (pc := 38) (len := 1) (v := 0) rfl ?_
      refine kRetI (mi := 136) (pc := 39) (len := 1) rfl (Or.inr ⟨rfl, Or.inl rfl⟩) ?_
      have e3 : (bIn x 8 && (bDay t && (!decide (p.toInt < 1) && (decide (p.toInt < 10000) && bIn u 100)))) = false := by simp only [c1, c2, Bool.true_and, Bool.false_and, Bool.and_true, Bool.and_false, Bool.not_true, Bool.not_false]
      rw [e3]
      exact ⟨rfl, rfl⟩
    · have c2 := hc2
      replace c2 : bDay t = true := mB_eq.2 c2
      refine kIfF (mi := 136) (pc := 13) (len := 3) (t := 38) rfl rfl hc2 ?_
      refine kIload (mi := 136) (pc := 16) (len := 1) (i := 3) rfl rfl ?_
      refine kIconst (mi := 136) (pc := 17) (len := 1) (v := 1) rfl ?_
      rcases Bool.eq_false_or_eq_true (mCond .lt p (1 : Int32)) with hc3 | hc3
      · have c3 := hc3
        replace c3 : p.toInt < 1 := mC_lt.1 c3
        refine kIcT (mi := 136) (pc := 18) (len := 3) (t := 38) rfl rfl hc3 ?_
        refine kIconst (mi := 136) (pc := 38) (len := 1) (v := 0) rfl ?_
        refine kRetI (mi := 136) (pc := 39) (len := 1) rfl (Or.inr ⟨rfl, Or.inl rfl⟩) ?_
        have e3 : (bIn x 8 && (bDay t && (!decide (p.toInt < 1) && (decide (p.toInt < 10000) && bIn u 100)))) = false := by simp only [c1, c2, decide_eq_true c3, Bool.true_and, Bool.false_and, Bool.and_true, Bool.and_false, Bool.not_true, Bool.not_false]
        rw [e3]
        exact ⟨rfl, rfl⟩
      · have c3 := hc3
        replace c3 : ¬ p.toInt < 1 := mC_lt.2 c3
        refine kIcF (mi := 136) (pc := 18) (len := 3) (t := 38) rfl rfl hc3 ?_
        refine kIload (mi := 136) (pc := 21) (len := 1) (i := 3) rfl rfl ?_
        refine kIconst (mi := 136) (pc := 22) (len := 3) (v := 10000) rfl ?_
        rcases Bool.eq_false_or_eq_true (mCond .ge p (10000 : Int32)) with hc4 | hc4
        · have c4 := hc4
          replace c4 : ¬ p.toInt < 10000 := mC_ge.1 c4
          refine kIcT (mi := 136) (pc := 25) (len := 3) (t := 38) rfl rfl hc4 ?_
          refine kIconst (mi := 136) (pc := 38) (len := 1) (v := 0) rfl ?_
          refine kRetI (mi := 136) (pc := 39) (len := 1) rfl (Or.inr ⟨rfl, Or.inl rfl⟩) ?_
          have e3 : (bIn x 8 && (bDay t && (!decide (p.toInt < 1) && (decide (p.toInt < 10000) && bIn u 100)))) = false := by simp only [c1, c2, decide_eq_false c3, decide_eq_false c4, Bool.true_and, Bool.false_and, Bool.and_true, Bool.and_false, Bool.not_true, Bool.not_false]
          rw [e3]
          exact ⟨rfl, rfl⟩
        · have c4 := hc4
          replace c4 : p.toInt < 10000 := mC_ge.2 c4
          refine kIcF (mi := 136) (pc := 25) (len := 3) (t := 38) rfl rfl hc4 ?_
          refine kIload (mi := 136) (pc := 28) (len := 2) (i := 4) rfl rfl ?_
          refine kIconst (mi := 136) (pc := 30) (len := 2) (v := 100) rfl ?_
          refine kCallP (mi := 136) (pc := 32) (len := 3) (j := 148) rfl (Or.inl rfl) (by decide) (mCall_ok (n := 2) (l := 2) (rk := 2) (own := 10) (kd := 0) (as := [.int u, .int (100 : Int32)]) (rest := []) (by omega) (by decide) rfl rfl rfl rfl rfl rfl (Or.inl rfl)) (bIn_ok (by omega)) ?_
          rcases Bool.eq_false_or_eq_true (mCond .ne (b2 (bIn u (100 : Int32))) 0) with hc5 | hc5
          · have c5 := hc5
            replace c5 : bIn u (100 : Int32) = true := mB_ne.1 c5
            refine kIfT (mi := 136) (pc := 35) (len := 3) (t := 40) rfl rfl hc5 ?_
            have gc1 := bIn8_true c1
            have gc2 := bDay_true c2
            have gc5 := bIn100_true c5
            refine kAload (mi := 136) (pc := 40) (len := 1) (i := 0) rfl rfl ?_
            refine kGetf (mi := 136) (pc := 41) (len := 3) (j := 1010) rfl (hT.hd (c := 2) (by decide) (by decide)) (by decide) (hT.ref (c := 2) (i := 10) (g := 138) (by decide) (by decide) (by decide) (lo := 0) (hi' := 0) rfl rfl) ?_
            refine kGetf (mi := 136) (pc := 44) (len := 3) (j := 700) rfl (hT.hd (c := 138) (by decide) (by decide)) (by decide) (hT.ref (c := 138) (i := 0) (g := 139) (by decide) (by decide) (by decide) (lo := 0) (hi' := 0) rfl rfl) ?_
            refine kIload (mi := 136) (pc := 47) (len := 1) (i := 1) rfl rfl ?_
            refine kIload (mi := 136) (pc := 48) (len := 1) (i := 2) rfl rfl ?_
            refine kIast (mi := 136) (pc := 49) (len := 1) (n := 8) rfl (hT.hd (c := 139) (by decide) (by decide)) (by decide) (by show (0 : Int) ≤ x.toInt; omega) (by show x.toInt < 8; omega) ?_
            have hT6 := hT.put (a := 139) (i := x.toInt.toNat) (v := .int t) (by decide) (by decide) (show aTy (tTy (tGrp 139) _) _ from ⟨t, rfl, by show (0 : Int) ≤ _; omega, by show _ ≤ (999 : Int); omega⟩)
            refine kAload (mi := 136) (pc := 50) (len := 1) (i := 0) rfl rfl ?_
            refine kGetf (mi := 136) (pc := 51) (len := 3) (j := 1010) rfl (hT6.hd (c := 2) (by decide) (by decide)) (by decide) (hT6.ref (c := 2) (i := 10) (g := 138) (by decide) (by decide) (by decide) (lo := 0) (hi' := 0) rfl rfl) ?_
            refine kGetf (mi := 136) (pc := 54) (len := 3) (j := 701) rfl (hT6.hd (c := 138) (by decide) (by decide)) (by decide) (hT6.ref (c := 138) (i := 1) (g := 140) (by decide) (by decide) (by decide) (lo := 0) (hi' := 0) rfl rfl) ?_
            refine kIload (mi := 136) (pc := 57) (len := 1) (i := 1) rfl rfl ?_
            refine kIload (mi := 136) (pc := 58) (len := 1) (i := 3) rfl rfl ?_
            refine kIast (mi := 136) (pc := 59) (len := 1) (n := 8) rfl (hT6.hd (c := 140) (by decide) (by decide)) (by decide) (by show (0 : Int) ≤ x.toInt; omega) (by show x.toInt < 8; omega) ?_
            have hT7 := hT6.put (a := 140) (i := x.toInt.toNat) (v := .int p) (by decide) (by decide) (show aTy (tTy (tGrp 140) _) _ from ⟨p, rfl, by show (0 : Int) ≤ _; omega, by show _ ≤ (9999 : Int); omega⟩)
            refine kAload (mi := 136) (pc := 60) (len := 1) (i := 0) rfl rfl ?_
            refine kGetf (mi := 136) (pc := 61) (len := 3) (j := 1010) rfl (hT7.hd (c := 2) (by decide) (by decide)) (by decide) (hT7.ref (c := 2) (i := 10) (g := 138) (by decide) (by decide) (by decide) (lo := 0) (hi' := 0) rfl rfl) ?_
            refine kGetf (mi := 136) (pc := 64) (len := 3) (j := 702) rfl (hT7.hd (c := 138) (by decide) (by decide)) (by decide) (hT7.ref (c := 138) (i := 2) (g := 141) (by decide) (by decide) (by decide) (lo := 0) (hi' := 0) rfl rfl) ?_
            refine kIload (mi := 136) (pc := 67) (len := 1) (i := 1) rfl rfl ?_
            refine kIload (mi := 136) (pc := 68) (len := 2) (i := 4) rfl rfl ?_
            refine kIast (mi := 136) (pc := 70) (len := 1) (n := 8) rfl (hT7.hd (c := 141) (by decide) (by decide)) (by decide) (by show (0 : Int) ≤ x.toInt; omega) (by show x.toInt < 8; omega) ?_
            have hT8 := hT7.put (a := 141) (i := x.toInt.toNat) (v := .int u) (by decide) (by decide) (show aTy (tTy (tGrp 141) _) _ from ⟨u, rfl, by show (0 : Int) ≤ _; omega, by show _ ≤ (99 : Int); omega⟩)
            refine kIconst (mi := 136) (pc := 71) (len := 1) (v := 1) rfl ?_
            refine kRetI (mi := 136) (pc := 72) (len := 1) rfl (Or.inr ⟨rfl, Or.inr rfl⟩) ?_
            have e3 : (bIn x 8 && (bDay t && (!decide (p.toInt < 1) && (decide (p.toInt < 10000) && bIn u 100)))) = true := by simp only [c1, c2, decide_eq_false c3, decide_eq_true c4, c5, Bool.true_and, Bool.false_and, Bool.and_true, Bool.and_false, Bool.not_true, Bool.not_false]
            rw [e3]
            exact ⟨rfl, rfl⟩
          · have c5 := hc5
            replace c5 : bIn u (100 : Int32) = false := mB_ne.2 c5
            refine kIfF (mi := 136) (pc := 35) (len := 3) (t := 40) rfl rfl hc5 ?_
            refine kIconst (mi := 136) (pc := 38) (len := 1) (v := 0) rfl ?_
            refine kRetI (mi := 136) (pc := 39) (len := 1) rfl (Or.inr ⟨rfl, Or.inl rfl⟩) ?_
            have e3 : (bIn x 8 && (bDay t && (!decide (p.toInt < 1) && (decide (p.toInt < 10000) && bIn u 100)))) = false := by simp only [c1, c2, decide_eq_false c3, decide_eq_true c4, c5, Bool.true_and, Bool.false_and, Bool.and_true, Bool.and_false, Bool.not_true, Bool.not_false]
            rw [e3]
            exact ⟨rfl, rfl⟩
theorem buyR_ok {x t p u : Int32} {d : Nat} {s : List Int32} {M : Mem} (hd : 3 ≤ d) (hT : aTp s M) : Ok d 261 0 (lv_args 0 [.ref 181, .int x, .int t, .int p, .int u]) [] M (fun r M' => r = some (.int (b2 (rIn x 0 7 && (rDay t && (rIn p 1 9999 && rIn u 0 99))))) ∧ M' = (bif rIn x 0 7 && (rDay t && (rIn p 1 9999 && rIn u 0 99)) then (mPut (mPut (mPut (mPut M 223 x.toInt.toNat (.int t)) 224 x.toInt.toNat (.int p)) 225 x.toInt.toNat (.int u)) 181 59 (.int ((iv (mPut (mPut (mPut M 223 x.toInt.toNat (.int t)) 224 x.toInt.toNat (.int p)) 225 x.toInt.toNat (.int u)) 181 59) ||| ((1 : Int32) <<< (x &&& 31))))) else M)) := by
  refine kIload (mi := 261) (pc := 0) (len := 1) (i := 1) rfl rfl ?_
  refine kIconst (mi := 261) (pc := 1) (len := 1) (v := 0) rfl ?_
  refine kIconst (mi := 261) (pc := 2) (len := 2) (v := 7) rfl ?_
  refine kCallP (mi := 261) (pc := 4) (len := 3) (j := 160) rfl (Or.inl rfl) (by decide) (mCall_ok (n := 3) (l := 3) (rk := 2) (own := 11) (kd := 0) (as := [.int x, .int (0 : Int32), .int (7 : Int32)]) (rest := []) (by omega) (by decide) rfl rfl rfl rfl rfl rfl (Or.inl rfl)) (rIn_ok (by omega)) ?_
  rcases Bool.eq_false_or_eq_true (mCond .eq (b2 (rIn x (0 : Int32) (7 : Int32))) 0) with hc1 | hc1
  · have c1 := hc1
    replace c1 : rIn x (0 : Int32) (7 : Int32) = false := mB_eq.1 c1
    refine kIfT (mi := 261) (pc := 7) (len := 3) (t := 39) rfl rfl hc1 ?_
    refine kIconst (mi := 261) (pc := 39) (len := 1) (v := 0) rfl ?_
    refine kRetI (mi := 261) (pc := 40) (len := 1) rfl (Or.inr ⟨rfl, Or.inl rfl⟩) ?_
    have e3 : (rIn x 0 7 && (rDay t && (rIn p 1 9999 && rIn u 0 99))) = false := by simp only [c1, Bool.true_and, Bool.false_and, Bool.and_true, Bool.and_false, Bool.not_true, Bool.not_false]
    rw [e3]
    exact ⟨rfl, rfl⟩
  · have c1 := hc1
    replace c1 : rIn x (0 : Int32) (7 : Int32) = true := mB_eq.2 c1
    refine kIfF (mi := 261) (pc := 7) (len := 3) (t := 39) rfl rfl hc1 ?_
    refine kIload (mi := 261) (pc := 10) (len := 1) (i := 2) rfl rfl ?_
    refine kCallP (mi := 261) (pc := 11) (len := 3) (j := 161) rfl (Or.inl rfl) (by decide) (mCall_ok (n := 1) (l := 1) (rk := 2) (own := 11) (kd := 0) (as := [.int t]) (rest := []) (by omega) (by decide) rfl rfl rfl rfl rfl rfl (Or.inl rfl)) (rDay_ok (by omega)) ?_
    rcases Bool.eq_false_or_eq_true (mCond .eq (b2 (rDay t)) 0) with hc2 | hc2
    · have c2 := hc2
      replace c2 : rDay t = false := mB_eq.1 c2
      refine kIfT (mi := 261) (pc := 14) (len := 3) (t := 39) rfl rfl hc2 ?_
      refine kIconst (mi := 261) (pc := 39) (len := 1) (v := 0) rfl ?_
      refine kRetI (mi := 261) (pc := 40) (len := 1) rfl (Or.inr ⟨rfl, Or.inl rfl⟩) ?_
      have e3 : (rIn x 0 7 && (rDay t && (rIn p 1 9999 && rIn u 0 99))) = false := by simp only [c1, c2, Bool.true_and, Bool.false_and, Bool.and_true, Bool.and_false, Bool.not_true, Bool.not_false]
      rw [e3]
      exact ⟨rfl, rfl⟩
    · have c2 := hc2
      replace c2 : rDay t = true := mB_eq.2 c2
      refine kIfF (mi := 261) (pc := 14) (len := 3) (t := 39) rfl rfl hc2 ?_
      refine kIload (mi := 261) (pc := 17) (len := 1) (i := 3) rfl rfl ?_
      refine kIconst (mi := 261) (pc := 18) (len := 1) (v := 1) rfl ?_
      refine kIconst (mi := 261) (pc := 19) (len := 3) (v := 9999) rfl ?_
      refine kCallP (mi := 261) (pc := 22) (len := 3) (j := 160) rfl (Or.inl rfl) (by decide) (mCall_ok (n := 3) (l := 3) (rk := 2) (own := 11) (kd := 0) (as := [.int p, .int (1 : Int32), .int (9999 : Int32)]) (rest := []) (by omega) (by decide) rfl rfl rfl rfl rfl rfl (Or.inl rfl)) (rIn_ok (by omega)) ?_
      rcases Bool.eq_false_or_eq_true (mCond .eq (b2 (rIn p (1 : Int32) (9999 : Int32))) 0) with hc3 | hc3
      · have c3 := hc3
        replace c3 : rIn p (1 : Int32) (9999 : Int32) = false := mB_eq.1 c3
        refine kIfT (mi := 261) (pc := 25) (len := 3) (t := 39) rfl rfl hc3 ?_
        refine kIconst (mi := 261) (pc := 39) (len := 1) (v := 0) rfl ?_
        refine kRetI (mi := 261) (pc := 40) (len := 1) rfl (Or.inr ⟨rfl, Or.inl rfl⟩) ?_
        have e3 : (rIn x 0 7 && (rDay t && (rIn p 1 9999 && rIn u 0 99))) = false := by simp only [c1, c2, c3, Bool.true_and, Bool.false_and, Bool.and_true, Bool.and_false, Bool.not_true, Bool.not_false]
        rw [e3]
        exact ⟨rfl, rfl⟩
      · have c3 := hc3
        replace c3 : rIn p (1 : Int32) (9999 : Int32) = true := mB_eq.2 c3
        refine kIfF (mi := 261) (pc := 25) (len := 3) (t := 39) rfl rfl hc3 ?_
        refine kIload (mi := 261) (pc := 28) (len := 2) (i := 4) rfl rfl ?_
        refine kIconst (mi := 261) (pc := 30) (len := 1) (v := 0) rfl ?_
        refine kIconst (mi := 261) (pc := 31) (len := 2) (v := 99) rfl ?_
        refine kCallP (mi := 261) (pc := 33) (len := 3) (j := 160) rfl (Or.inl rfl) (by decide) (mCall_ok (n := 3) (l := 3) (rk := 2) (own := 11) (kd := 0) (as := [.int u, .int (0 : Int32), .int (99 : Int32)]) (rest := []) (by omega) (by decide) rfl rfl rfl rfl rfl rfl (Or.inl rfl)) (rIn_ok (by omega)) ?_
        rcases Bool.eq_false_or_eq_true (mCond .ne (b2 (rIn u (0 : Int32) (99 : Int32))) 0) with hc4 | hc4
        · have c4 := hc4
          replace c4 : rIn u (0 : Int32) (99 : Int32) = true := mB_ne.1 c4
          refine kIfT (mi := 261) (pc := 36) (len := 3) (t := 41) rfl rfl hc4 ?_
          have gc1 := rIn8_true c1
          have gc2 := rDay_true c2
          have gc3 := rInP_true c3
          have gc4 := rIn100_true c4
          refine kAload (mi := 261) (pc := 41) (len := 1) (i := 0) rfl rfl ?_
          refine kGetf (mi := 261) (pc := 42) (len := 3) (j := 1160) rfl (hT.hd (c := 181) (by decide) (by decide)) (by decide) (hT.ref (c := 181) (i := 60) (g := 223) (by decide) (by decide) (by decide) (lo := 0) (hi' := 0) rfl rfl) ?_
          refine kIload (mi := 261) (pc := 45) (len := 1) (i := 1) rfl rfl ?_
          refine kIload (mi := 261) (pc := 46) (len := 1) (i := 2) rfl rfl ?_
          refine kIast (mi := 261) (pc := 47) (len := 1) (n := 8) rfl (hT.hd (c := 223) (by decide) (by decide)) (by decide) (by show (0 : Int) ≤ x.toInt; omega) (by show x.toInt < 8; omega) ?_
          have hT5 := hT.put (a := 223) (i := x.toInt.toNat) (v := .int t) (by decide) (by decide) (show aTy (tTy (tGrp 223) _) _ from ⟨t, rfl, by show (0 : Int) ≤ _; omega, by show _ ≤ (999 : Int); omega⟩)
          refine kAload (mi := 261) (pc := 48) (len := 1) (i := 0) rfl rfl ?_
          refine kGetf (mi := 261) (pc := 49) (len := 3) (j := 1161) rfl (hT5.hd (c := 181) (by decide) (by decide)) (by decide) (hT5.ref (c := 181) (i := 61) (g := 224) (by decide) (by decide) (by decide) (lo := 0) (hi' := 0) rfl rfl) ?_
          refine kIload (mi := 261) (pc := 52) (len := 1) (i := 1) rfl rfl ?_
          refine kIload (mi := 261) (pc := 53) (len := 1) (i := 3) rfl rfl ?_
          refine kIast (mi := 261) (pc := 54) (len := 1) (n := 8) rfl (hT5.hd (c := 224) (by decide) (by decide)) (by decide) (by show (0 : Int) ≤ x.toInt; omega) (by show x.toInt < 8; omega) ?_
          have hT6 := hT5.put (a := 224) (i := x.toInt.toNat) (v := .int p) (by decide) (by decide) (show aTy (tTy (tGrp 224) _) _ from ⟨p, rfl, by show (0 : Int) ≤ _; omega, by show _ ≤ (9999 : Int); omega⟩)
          refine kAload (mi := 261) (pc := 55) (len := 1) (i := 0) rfl rfl ?_
          refine kGetf (mi := 261) (pc := 56) (len := 3) (j := 1162) rfl (hT6.hd (c := 181) (by decide) (by decide)) (by decide) (hT6.ref (c := 181) (i := 62) (g := 225) (by decide) (by decide) (by decide) (lo := 0) (hi' := 0) rfl rfl) ?_
          refine kIload (mi := 261) (pc := 59) (len := 1) (i := 1) rfl rfl ?_
          refine kIload (mi := 261) (pc := 60) (len := 2) (i := 4) rfl rfl ?_
          refine kIast (mi := 261) (pc := 62) (len := 1) (n := 8) rfl (hT6.hd (c := 225) (by decide) (by decide)) (by decide) (by show (0 : Int) ≤ x.toInt; omega) (by show x.toInt < 8; omega) ?_
          have hT7 := hT6.put (a := 225) (i := x.toInt.toNat) (v := .int u) (by decide) (by decide) (show aTy (tTy (tGrp 225) _) _ from ⟨u, rfl, by show (0 : Int) ≤ _; omega, by show _ ≤ (99 : Int); omega⟩)
          refine kAload (mi := 261) (pc := 63) (len := 1) (i := 0) rfl rfl ?_
          refine kAload (mi := 261) (pc := 64) (len := 1) (i := 0) rfl rfl ?_
          refine kGetf (mi := 261) (pc := 65) (len := 3) (j := 1159) rfl (hT7.hd (c := 181) (by decide) (by decide)) (by decide) ((Sh.of hT7).slI (c := 181) (i := 59) (by decide) (by decide) (by decide) rfl) ?_
          refine kIconst (mi := 261) (pc := 68) (len := 1) (v := 1) rfl ?_
          refine kIload (mi := 261) (pc := 69) (len := 1) (i := 1) rfl rfl ?_
          refine kShl (mi := 261) (pc := 70) (len := 1) rfl ?_
          refine kOr (mi := 261) (pc := 71) (len := 1) rfl ?_
          have hx59 : 0 ≤ (iv (mPut (mPut (mPut M 223 x.toInt.toNat (.int t)) 224 x.toInt.toNat (.int p)) 225 x.toInt.toNat (.int u)) 181 59).toInt ∧ (iv (mPut (mPut (mPut M 223 x.toInt.toNat (.int t)) 224 x.toInt.toNat (.int p)) 225 x.toInt.toNat (.int u)) 181 59).toInt ≤ 255 := by
            obtain ⟨v, v1, v2, v3⟩ := hT7.int (c := 181) (i := 59) (by decide) (by decide) (by decide) (lo := 0) (hi' := 255) (gs := []) rfl
            rw [iv_of v1]
            exact ⟨v2, v3⟩
          obtain ⟨hb0, hb1, _⟩ := bo_i (x := iv (mPut (mPut (mPut M 223 x.toInt.toNat (.int t)) 224 x.toInt.toNat (.int p)) 225 x.toInt.toNat (.int u)) 181 59) (k := x) hx59.1 (by omega) (by omega) (by omega)
          refine kPutf (mi := 261) (pc := 72) (len := 3) (j := 1159) (v := .int ((iv (mPut (mPut (mPut M 223 x.toInt.toNat (.int t)) 224 x.toInt.toNat (.int p)) 225 x.toInt.toNat (.int u)) 181 59) ||| ((1 : Int32) <<< (x &&& 31)))) rfl (hT7.hd (c := 181) (by decide) (by decide)) (by decide) (by decide) rfl ?_
          have hT8 := hT7.put (a := 181) (i := 59) (v := .int ((iv (mPut (mPut (mPut M 223 x.toInt.toNat (.int t)) 224 x.toInt.toNat (.int p)) 225 x.toInt.toNat (.int u)) 181 59) ||| ((1 : Int32) <<< (x &&& 31)))) (by decide) (by decide) (show aTy (tTy (tGrp 181) _) _ from ⟨((iv (mPut (mPut (mPut M 223 x.toInt.toNat (.int t)) 224 x.toInt.toNat (.int p)) 225 x.toInt.toNat (.int u)) 181 59) ||| ((1 : Int32) <<< (x &&& 31))), rfl, by show (0 : Int) ≤ _; omega, by show _ ≤ (255 : Int); omega⟩)
          refine kIconst (mi := 261) (pc := 75) (len := 1) (v := 1) rfl ?_
          refine kRetI (mi := 261) (pc := 76) (len := 1) rfl (Or.inr ⟨rfl, Or.inr rfl⟩) ?_
          have e3 : (rIn x 0 7 && (rDay t && (rIn p 1 9999 && rIn u 0 99))) = true := by simp only [c1, c2, c3, c4, Bool.true_and, Bool.false_and, Bool.and_true, Bool.and_false, Bool.not_true, Bool.not_false]
          rw [e3]
          exact ⟨rfl, rfl⟩
        · have c4 := hc4
          replace c4 : rIn u (0 : Int32) (99 : Int32) = false := mB_ne.2 c4
          refine kIfF (mi := 261) (pc := 36) (len := 3) (t := 41) rfl rfl hc4 ?_
          refine kIconst (mi := 261) (pc := 39) (len := 1) (v := 0) rfl ?_
          refine kRetI (mi := 261) (pc := 40) (len := 1) rfl (Or.inr ⟨rfl, Or.inl rfl⟩) ?_
          have e3 : (rIn x 0 7 && (rDay t && (rIn p 1 9999 && rIn u 0 99))) = false := by simp only [c1, c2, c3, c4, Bool.true_and, Bool.false_and, Bool.and_true, Bool.and_false, Bool.not_true, Bool.not_false]
          rw [e3]
          exact ⟨rfl, rfl⟩
theorem hearC_ok {x t u : Int32} {d : Nat} {s : List Int32} {M : Mem} (hd : 3 ≤ d) (hT : aTp s M) (hR8 : ∀ i, i < 8 → mSlot M 142 i = some (.ref (143 + i))) : Ok d 137 0 (lv_args 0 [.ref 2, .int x, .int t, .int u]) [] M (fun r M' => r = some (.int (b2 (bIn x 8 && (bIn t 8 && (!decide (x.toInt = t.toInt) && bIn u 101))))) ∧ M' = (bif bIn x 8 && (bIn t 8 && (!decide (x.toInt = t.toInt) && bIn u 101)) then (mPut M (143 + x.toInt.toNat) t.toInt.toNat (.int u)) else M)) := by
  refine kIload (mi := 137) (pc := 0) (len := 1) (i := 1) rfl rfl ?_
  refine kIconst (mi := 137) (pc := 1) (len := 2) (v := 8) rfl ?_
  refine kCallP (mi := 137) (pc := 3) (len := 3) (j := 148) rfl (Or.inl rfl) (by decide) (mCall_ok (n := 2) (l := 2) (rk := 2) (own := 10) (kd := 0) (as := [.int x, .int (8 : Int32)]) (rest := []) (by omega) (by decide) rfl rfl rfl rfl rfl rfl (Or.inl rfl)) (bIn_ok (by omega)) ?_
  rcases Bool.eq_false_or_eq_true (mCond .eq (b2 (bIn x (8 : Int32))) 0) with hc1 | hc1
  · have c1 := hc1
    replace c1 : bIn x (8 : Int32) = false := mB_eq.1 c1
    refine kIfT (mi := 137) (pc := 6) (len := 3) (t := 32) rfl rfl hc1 ?_
    refine kIconst (mi := 137) (pc := 32) (len := 1) (v := 0) rfl ?_
    refine kRetI (mi := 137) (pc := 33) (len := 1) rfl (Or.inr ⟨rfl, Or.inl rfl⟩) ?_
    have e3 : (bIn x 8 && (bIn t 8 && (!decide (x.toInt = t.toInt) && bIn u 101))) = false := by simp only [c1, Bool.true_and, Bool.false_and, Bool.and_true, Bool.and_false, Bool.not_true, Bool.not_false]
    rw [e3]
    exact ⟨rfl, rfl⟩
  · have c1 := hc1
    replace c1 : bIn x (8 : Int32) = true := mB_eq.2 c1
    refine kIfF (mi := 137) (pc := 6) (len := 3) (t := 32) rfl rfl hc1 ?_
    refine kIload (mi := 137) (pc := 9) (len := 1) (i := 2) rfl rfl ?_
    refine kIconst (mi := 137) (pc := 10) (len := 2) (v := 8) rfl ?_
    refine kCallP (mi := 137) (pc := 12) (len := 3) (j := 148) rfl (Or.inl rfl) (by decide) (mCall_ok (n := 2) (l := 2) (rk := 2) (own := 10) (kd := 0) (as := [.int t, .int (8 : Int32)]) (rest := []) (by omega) (by decide) rfl rfl rfl rfl rfl rfl (Or.inl rfl)) (bIn_ok (by omega)) ?_
    rcases Bool.eq_false_or_eq_true (mCond .eq (b2 (bIn t (8 : Int32))) 0) with hc2 | hc2
    · have c2 := hc2
      replace c2 : bIn t (8 : Int32) = false := mB_eq.1 c2
      refine kIfT (mi := 137) (pc := 15) (len := 3) (t := 32) rfl rfl hc2 ?_
      refine kIconst (mi := 137) (pc := 32) (len := 1) (v := 0) rfl ?_
      refine kRetI (mi := 137) (pc := 33) (len := 1) rfl (Or.inr ⟨rfl, Or.inl rfl⟩) ?_
      have e3 : (bIn x 8 && (bIn t 8 && (!decide (x.toInt = t.toInt) && bIn u 101))) = false := by simp only [c1, c2, Bool.true_and, Bool.false_and, Bool.and_true, Bool.and_false, Bool.not_true, Bool.not_false]
      rw [e3]
      exact ⟨rfl, rfl⟩
    · have c2 := hc2
      replace c2 : bIn t (8 : Int32) = true := mB_eq.2 c2
      refine kIfF (mi := 137) (pc := 15) (len := 3) (t := 32) rfl rfl hc2 ?_
      refine kIload (mi := 137) (pc := 18) (len := 1) (i := 1) rfl rfl ?_
      refine kIload (mi := 137) (pc := 19) (len := 1) (i := 2) rfl rfl ?_
      rcases Bool.eq_false_or_eq_true (mCond .eq x t) with hc3 | hc3
      · have c3 := hc3
        replace c3 : x.toInt = t.toInt := mC_eq.1 c3
        refine kIcT (mi := 137) (pc := 20) (len := 3) (t := 32) rfl rfl hc3 ?_
        refine kIconst (mi := 137) (pc := 32) (len := 1) (v := 0) rfl ?_
        refine kRetI (mi := 137) (pc := 33) (len := 1) rfl (Or.inr ⟨rfl, Or.inl rfl⟩) ?_
        have e3 : (bIn x 8 && (bIn t 8 && (!decide (x.toInt = t.toInt) && bIn u 101))) = false := by simp only [c1, c2, decide_eq_true c3, Bool.true_and, Bool.false_and, Bool.and_true, Bool.and_false, Bool.not_true, Bool.not_false]
        rw [e3]
        exact ⟨rfl, rfl⟩
      · have c3 := hc3
        replace c3 : ¬ x.toInt = t.toInt := mC_eq.2 c3
        refine kIcF (mi := 137) (pc := 20) (len := 3) (t := 32) rfl rfl hc3 ?_
        refine kIload (mi := 137) (pc := 23) (len := 1) (i := 3) rfl rfl ?_
        refine kIconst (mi := 137) (pc := 24) (len := 2) (v := 101) rfl ?_
        refine kCallP (mi := 137) (pc := 26) (len := 3) (j := 148) rfl (Or.inl rfl) (by decide) (mCall_ok (n := 2) (l := 2) (rk := 2) (own := 10) (kd := 0) (as := [.int u, .int (101 : Int32)]) (rest := []) (by omega) (by decide) rfl rfl rfl rfl rfl rfl (Or.inl rfl)) (bIn_ok (by omega)) ?_
        rcases Bool.eq_false_or_eq_true (mCond .ne (b2 (bIn u (101 : Int32))) 0) with hc4 | hc4
        · have c4 := hc4
          replace c4 : bIn u (101 : Int32) = true := mB_ne.1 c4
          refine kIfT (mi := 137) (pc := 29) (len := 3) (t := 34) rfl rfl hc4 ?_
          have gc1 := bIn8_true c1
          have gc2 := bIn8_true c2
          have gc4 := bIn101_true c4
          refine kAload (mi := 137) (pc := 34) (len := 1) (i := 0) rfl rfl ?_
          refine kGetf (mi := 137) (pc := 35) (len := 3) (j := 1010) rfl (hT.hd (c := 2) (by decide) (by decide)) (by decide) (hT.ref (c := 2) (i := 10) (g := 138) (by decide) (by decide) (by decide) (lo := 0) (hi' := 0) rfl rfl) ?_
          refine kGetf (mi := 137) (pc := 38) (len := 3) (j := 703) rfl (hT.hd (c := 138) (by decide) (by decide)) (by decide) (hT.ref (c := 138) (i := 3) (g := 142) (by decide) (by decide) (by decide) (lo := 0) (hi' := 0) rfl rfl) ?_
          refine kIload (mi := 137) (pc := 41) (len := 1) (i := 1) rfl rfl ?_
          obtain ⟨rw0, rw1, rw2⟩ := row_g x.toInt.toNat (by omega)
          refine kAaldT (mi := 137) (pc := 42) (len := 1) (n := 8) (b := (143 + x.toInt.toNat)) rfl (hT.hd (c := 142) (by decide) (by decide)) rfl (by omega) (by omega) (hR8 _ (by omega)) ?_
          refine kIload (mi := 137) (pc := 43) (len := 1) (i := 2) rfl rfl ?_
          refine kIload (mi := 137) (pc := 44) (len := 1) (i := 3) rfl rfl ?_
          refine kIast (mi := 137) (pc := 45) (len := 1) (n := 8) rfl (show mHd M (143 + x.toInt.toNat) = some (64, 8) by rw [hT.hd (c := (143 + x.toInt.toNat)) rw0 rw1, rw2]; rfl) (by omega) (by omega) (by omega) ?_
          have hT5 := hT.put (a := (143 + x.toInt.toNat)) (i := t.toInt.toNat) (v := .int u) rw0 rw1 (by rw [rw2]; exact ⟨u, rfl, by show (0 : Int) ≤ _; omega, by show _ ≤ (100 : Int); omega⟩)
          refine kIconst (mi := 137) (pc := 46) (len := 1) (v := 1) rfl ?_
          refine kRetI (mi := 137) (pc := 47) (len := 1) rfl (Or.inr ⟨rfl, Or.inr rfl⟩) ?_
          have e3 : (bIn x 8 && (bIn t 8 && (!decide (x.toInt = t.toInt) && bIn u 101))) = true := by simp only [c1, c2, decide_eq_false c3, c4, Bool.true_and, Bool.false_and, Bool.and_true, Bool.and_false, Bool.not_true, Bool.not_false]
          rw [e3]
          exact ⟨rfl, rfl⟩
        · have c4 := hc4
          replace c4 : bIn u (101 : Int32) = false := mB_ne.2 c4
          refine kIfF (mi := 137) (pc := 29) (len := 3) (t := 34) rfl rfl hc4 ?_
          refine kIconst (mi := 137) (pc := 32) (len := 1) (v := 0) rfl ?_
          refine kRetI (mi := 137) (pc := 33) (len := 1) rfl (Or.inr ⟨rfl, Or.inl rfl⟩) ?_
          have e3 : (bIn x 8 && (bIn t 8 && (!decide (x.toInt = t.toInt) && bIn u 101))) = false := by simp only [c1, c2, decide_eq_false c3, c4, Bool.true_and, Bool.false_and, Bool.and_true, Bool.and_false, Bool.not_true, Bool.not_false]
          rw [e3]
          exact ⟨rfl, rfl⟩
theorem hearR_ok {x t u : Int32} {d : Nat} {s : List Int32} {M : Mem} (hd : 3 ≤ d) (hT : aTp s M) : Ok d 262 0 (lv_args 0 [.ref 181, .int x, .int t, .int u]) [] M (fun r M' => r = some (.int (b2 (rIn x 0 7 && (rIn t 0 7 && (!decide (x.toInt = t.toInt) && rIn u 0 100))))) ∧ M' = (bif rIn x 0 7 && (rIn t 0 7 && (!decide (x.toInt = t.toInt) && rIn u 0 100)) then (mPut M 226 (((8 : Int32) * x) + t).toInt.toNat (.int (u - (100 : Int32)))) else M)) := by
  refine kIload (mi := 262) (pc := 0) (len := 1) (i := 1) rfl rfl ?_
  refine kIconst (mi := 262) (pc := 1) (len := 1) (v := 0) rfl ?_
  refine kIconst (mi := 262) (pc := 2) (len := 2) (v := 7) rfl ?_
  refine kCallP (mi := 262) (pc := 4) (len := 3) (j := 160) rfl (Or.inl rfl) (by decide) (mCall_ok (n := 3) (l := 3) (rk := 2) (own := 11) (kd := 0) (as := [.int x, .int (0 : Int32), .int (7 : Int32)]) (rest := []) (by omega) (by decide) rfl rfl rfl rfl rfl rfl (Or.inl rfl)) (rIn_ok (by omega)) ?_
  rcases Bool.eq_false_or_eq_true (mCond .eq (b2 (rIn x (0 : Int32) (7 : Int32))) 0) with hc1 | hc1
  · have c1 := hc1
    replace c1 : rIn x (0 : Int32) (7 : Int32) = false := mB_eq.1 c1
    refine kIfT (mi := 262) (pc := 7) (len := 3) (t := 35) rfl rfl hc1 ?_
    refine kIconst (mi := 262) (pc := 35) (len := 1) (v := 0) rfl ?_
    refine kRetI (mi := 262) (pc := 36) (len := 1) rfl (Or.inr ⟨rfl, Or.inl rfl⟩) ?_
    have e3 : (rIn x 0 7 && (rIn t 0 7 && (!decide (x.toInt = t.toInt) && rIn u 0 100))) = false := by simp only [c1, Bool.true_and, Bool.false_and, Bool.and_true, Bool.and_false, Bool.not_true, Bool.not_false]
    rw [e3]
    exact ⟨rfl, rfl⟩
  · have c1 := hc1
    replace c1 : rIn x (0 : Int32) (7 : Int32) = true := mB_eq.2 c1
    refine kIfF (mi := 262) (pc := 7) (len := 3) (t := 35) rfl rfl hc1 ?_
    refine kIload (mi := 262) (pc := 10) (len := 1) (i := 2) rfl rfl ?_
    refine kIconst (mi := 262) (pc := 11) (len := 1) (v := 0) rfl ?_
    refine kIconst (mi := 262) (pc := 12) (len := 2) (v := 7) rfl ?_
    refine kCallP (mi := 262) (pc := 14) (len := 3) (j := 160) rfl (Or.inl rfl) (by decide) (mCall_ok (n := 3) (l := 3) (rk := 2) (own := 11) (kd := 0) (as := [.int t, .int (0 : Int32), .int (7 : Int32)]) (rest := []) (by omega) (by decide) rfl rfl rfl rfl rfl rfl (Or.inl rfl)) (rIn_ok (by omega)) ?_
    rcases Bool.eq_false_or_eq_true (mCond .eq (b2 (rIn t (0 : Int32) (7 : Int32))) 0) with hc2 | hc2
    · have c2 := hc2
      replace c2 : rIn t (0 : Int32) (7 : Int32) = false := mB_eq.1 c2
      refine kIfT (mi := 262) (pc := 17) (len := 3) (t := 35) rfl rfl hc2 ?_
      refine kIconst (mi := 262) (pc := 35) (len := 1) (v := 0) rfl ?_
      refine kRetI (mi := 262) (pc := 36) (len := 1) rfl (Or.inr ⟨rfl, Or.inl rfl⟩) ?_
      have e3 : (rIn x 0 7 && (rIn t 0 7 && (!decide (x.toInt = t.toInt) && rIn u 0 100))) = false := by simp only [c1, c2, Bool.true_and, Bool.false_and, Bool.and_true, Bool.and_false, Bool.not_true, Bool.not_false]
      rw [e3]
      exact ⟨rfl, rfl⟩
    · have c2 := hc2
      replace c2 : rIn t (0 : Int32) (7 : Int32) = true := mB_eq.2 c2
      refine kIfF (mi := 262) (pc := 17) (len := 3) (t := 35) rfl rfl hc2 ?_
      refine kIload (mi := 262) (pc := 20) (len := 1) (i := 1) rfl rfl ?_
      refine kIload (mi := 262) (pc := 21) (len := 1) (i := 2) rfl rfl ?_
      rcases Bool.eq_false_or_eq_true (mCond .eq x t) with hc3 | hc3
      · have c3 := hc3
        replace c3 : x.toInt = t.toInt := mC_eq.1 c3
        refine kIcT (mi := 262) (pc := 22) (len := 3) (t := 35) rfl rfl hc3 ?_
        refine kIconst (mi := 262) (pc := 35) (len := 1) (v := 0) rfl ?_
        refine kRetI (mi := 262) (pc := 36) (len := 1) rfl (Or.inr ⟨rfl, Or.inl rfl⟩) ?_
        have e3 : (rIn x 0 7 && (rIn t 0 7 && (!decide (x.toInt = t.toInt) && rIn u 0 100))) = false := by simp only [c1, c2, decide_eq_true c3, Bool.true_and, Bool.false_and, Bool.and_true, Bool.and_false, Bool.not_true, Bool.not_false]
        rw [e3]
        exact ⟨rfl, rfl⟩
      · have c3 := hc3
        replace c3 : ¬ x.toInt = t.toInt := mC_eq.2 c3
        refine kIcF (mi := 262) (pc := 22) (len := 3) (t := 35) rfl rfl hc3 ?_
        refine kIload (mi := 262) (pc := 25) (len := 1) (i := 3) rfl rfl ?_
        refine kIconst (mi := 262) (pc := 26) (len := 1) (v := 0) rfl ?_
        refine kIconst (mi := 262) (pc := 27) (len := 2) (v := 100) rfl ?_
        refine kCallP (mi := 262) (pc := 29) (len := 3) (j := 160) rfl (Or.inl rfl) (by decide) (mCall_ok (n := 3) (l := 3) (rk := 2) (own := 11) (kd := 0) (as := [.int u, .int (0 : Int32), .int (100 : Int32)]) (rest := []) (by omega) (by decide) rfl rfl rfl rfl rfl rfl (Or.inl rfl)) (rIn_ok (by omega)) ?_
        rcases Bool.eq_false_or_eq_true (mCond .ne (b2 (rIn u (0 : Int32) (100 : Int32))) 0) with hc4 | hc4
        · have c4 := hc4
          replace c4 : rIn u (0 : Int32) (100 : Int32) = true := mB_ne.1 c4
          refine kIfT (mi := 262) (pc := 32) (len := 3) (t := 37) rfl rfl hc4 ?_
          have gc1 := rIn8_true c1
          have gc2 := rIn8_true c2
          have gc4 := rIn101_true c4
          refine kAload (mi := 262) (pc := 37) (len := 1) (i := 0) rfl rfl ?_
          refine kGetf (mi := 262) (pc := 38) (len := 3) (j := 1163) rfl (hT.hd (c := 181) (by decide) (by decide)) (by decide) (hT.ref (c := 181) (i := 63) (g := 226) (by decide) (by decide) (by decide) (lo := 0) (hi' := 0) rfl rfl) ?_
          refine kIconst (mi := 262) (pc := 41) (len := 2) (v := 8) rfl ?_
          refine kIload (mi := 262) (pc := 43) (len := 1) (i := 1) rfl rfl ?_
          refine kMul (mi := 262) (pc := 44) (len := 1) rfl ?_
          refine kIload (mi := 262) (pc := 45) (len := 1) (i := 2) rfl rfl ?_
          refine kAdd (mi := 262) (pc := 46) (len := 1) rfl ?_
          refine kIload (mi := 262) (pc := 47) (len := 1) (i := 3) rfl rfl ?_
          refine kIconst (mi := 262) (pc := 48) (len := 2) (v := 100) rfl ?_
          refine kSub (mi := 262) (pc := 50) (len := 1) rfl ?_
          have e8 : ((8 : Int32) * x).toInt = 8 * x.toInt := i32_mul (x := 8) (by show -2147483648 ≤ 8 * x.toInt; omega) (by show 8 * x.toInt ≤ _; omega)
          have e9 : (((8 : Int32) * x) + t).toInt = 8 * x.toInt + t.toInt := by rw [i32_add (by omega) (by omega), e8]
          have e7 : (u - (100 : Int32)).toInt = u.toInt - 100 := i32_sub (y := 100) (by show -2147483648 ≤ u.toInt - 100; omega) (by show u.toInt - 100 ≤ _; omega)
          refine kIast (mi := 262) (pc := 51) (len := 1) (n := 64) rfl (hT.hd (c := 226) (by decide) (by decide)) (by decide) (by show (0 : Int) ≤ (((8 : Int32) * x) + t).toInt; omega) (by show (((8 : Int32) * x) + t).toInt < 64; omega) ?_
          have hT5 := hT.put (a := 226) (i := (((8 : Int32) * x) + t).toInt.toNat) (v := .int (u - (100 : Int32))) (by decide) (by decide) (show aTy (tTy (tGrp 226) _) _ from ⟨(u - (100 : Int32)), rfl, by show (-100 : Int) ≤ _; omega, by show _ ≤ (0 : Int); omega⟩)
          refine kIconst (mi := 262) (pc := 52) (len := 1) (v := 1) rfl ?_
          refine kRetI (mi := 262) (pc := 53) (len := 1) rfl (Or.inr ⟨rfl, Or.inr rfl⟩) ?_
          have e3 : (rIn x 0 7 && (rIn t 0 7 && (!decide (x.toInt = t.toInt) && rIn u 0 100))) = true := by simp only [c1, c2, decide_eq_false c3, c4, Bool.true_and, Bool.false_and, Bool.and_true, Bool.and_false, Bool.not_true, Bool.not_false]
          rw [e3]
          exact ⟨rfl, rfl⟩
        · have c4 := hc4
          replace c4 : rIn u (0 : Int32) (100 : Int32) = false := mB_ne.2 c4
          refine kIfF (mi := 262) (pc := 32) (len := 3) (t := 37) rfl rfl hc4 ?_
          refine kIconst (mi := 262) (pc := 35) (len := 1) (v := 0) rfl ?_
          refine kRetI (mi := 262) (pc := 36) (len := 1) rfl (Or.inr ⟨rfl, Or.inl rfl⟩) ?_
          have e3 : (rIn x 0 7 && (rIn t 0 7 && (!decide (x.toInt = t.toInt) && rIn u 0 100))) = false := by simp only [c1, c2, decide_eq_false c3, c4, Bool.true_and, Bool.false_and, Bool.and_true, Bool.and_false, Bool.not_true, Bool.not_false]
          rw [e3]
          exact ⟨rfl, rfl⟩
theorem yV_np9 {M : Mem} {a i : Nat} {v : Value} (h : tPro9 (tGrp a) (aSlK a i) = false) : yV (mPut M a i v) = yV M := by
  refine yV_same (fun t f d hq => mSlot_put_ne ?_)
  by_cases e : yC t f d = a
  · refine Or.inr (fun e2 => ?_)
    have q := (yPro9 hq).1
    rw [e, e2, h] at q
    cases q
  · exact Or.inl e
theorem Rf_put {M : Mem} {a i : Nat} {v : Value} (h : a ≠ 8 ∧ a ≠ 129 ∧ a ≠ 99 ∧ a ≠ 142) (hR : Rf M) : Rf (mPut M a i v) :=
  ⟨fun e he => (mSlot_put_ne (Or.inl (Ne.symm h.1))).trans (hR.1 e he), fun k hk => (mSlot_put_ne (Or.inl (Ne.symm h.2.1))).trans (hR.2.1 k hk), fun p hp => (mSlot_put_ne (Or.inl (Ne.symm h.2.2.1))).trans (hR.2.2.1 p hp), fun i hi => (mSlot_put_ne (Or.inl (Ne.symm h.2.2.2))).trans (hR.2.2.2 i hi)⟩
theorem pR_put {M : Mem} {a i : Nat} {v : Value} (h : ∀ j, qP a j = false) : pR (mPut M a i v) = pR M := by
  refine pR_same (fun c j hq => mSlot_put_ne (Or.inl (fun e => ?_)))
  subst e
  rw [h j] at hq
  cases hq
theorem qP_ne {c i : Nat} (h : qP c i = true) : c ≠ 127 ∧ c ≠ 128 ∧ c ≠ 181 ∧ c ≠ 202 := by
  simp only [qP, tProP, Bool.or_eq_true, Bool.and_eq_true, Nat.beq_eq, Nat.ble_eq] at h
  omega
/-- a strip is told to both -/
theorem strip_mem {s : List Int32} {γ : Gh} {M : Mem} {x : Nat} {o l : Int32} (h : aMem (s, γ) M) (hx : x < 8) (ho : 0 ≤ o.toInt ∧ o.toInt < 10) (hl : 0 ≤ l.toInt ∧ l.toInt < 3) : aMem (s, γ) (mPut (mPut (mPut (mPut M 5 x (.int o)) 6 x (.int l)) 183 x (.int o)) 184 x (.int l)) := by
  have h9 := aMem_to9 h
  have hT := aTp_of (aMem_0 h9)
  have t5 := hT.put (a := 5) (i := x) (v := .int o) (by decide) (by decide) (show aTy (tTy (tGrp 5) _) _ from ⟨o, rfl, by show (0 : Int) ≤ _; omega, by show _ ≤ (9 : Int); omega⟩)
  have t6 := t5.put (a := 6) (i := x) (v := .int l) (by decide) (by decide) (show aTy (tTy (tGrp 6) _) _ from ⟨l, rfl, by show (0 : Int) ≤ _; omega, by show _ ≤ (2 : Int); omega⟩)
  have t7 := t6.put (a := 183) (i := x) (v := .int o) (by decide) (by decide) (show aTy (tTy (tGrp 183) _) _ from ⟨o, rfl, by show (0 : Int) ≤ _; omega, by show _ ≤ (9 : Int); omega⟩)
  have t8 := t7.put (a := 184) (i := x) (v := .int l) (by decide) (by decide) (show aTy (tTy (tGrp 184) _) _ from ⟨l, rfl, by show (0 : Int) ≤ _; omega, by show _ ≤ (2 : Int); omega⟩)
  have hx9 : x9 γ M := h9.1.2.2
  refine aMem_of9 (fin9 h9 t8 (fun _ _ _ => rfl) ?_ ⟨?_, ?_⟩) ⟨?_, ?_, ?_, ?_, ?_, ?_⟩ (xO_same rfl (fun c j q => by
    have ok : c ≠ 5 ∧ c ≠ 6 ∧ c ≠ 183 ∧ c ≠ 184 := by unfold qR at q; omega
    rw [mSlot_put_ne (Or.inl ok.2.2.2), mSlot_put_ne (Or.inl ok.2.2.1), mSlot_put_ne (Or.inl ok.2.1), mSlot_put_ne (Or.inl ok.1)]) (aMem_xO h))
  · rw [xv_put0 rfl, xv_put0 rfl, xv_put0 rfl, xv_put0 rfl]
  · exact yT_put (by decide) (by decide) (yT_put (by decide) (by decide) (yT_put (by decide) (by decide) (yT_put (by decide) (by decide) hx9.1)))
  · rw [yV_np9 rfl, yV_np9 rfl, yV_np9 rfl, yV_np9 rfl]
    exact hx9.2
  · have ok : ∀ a : Nat, a = 5 ∨ a = 6 ∨ a = 183 ∨ a = 184 → a ≠ 8 ∧ a ≠ 129 ∧ a ≠ 99 ∧ a ≠ 142 := by omega
    exact Rf_put (ok 184 (by decide)) (Rf_put (ok 183 (by decide)) (Rf_put (ok 6 (by decide)) (Rf_put (ok 5 (by decide)) (aMem_x10 h).1)))
  · intro q hq
    have e := (aMem_x10 h).2.1 q hq
    by_cases w : q = x
    · subst w
      constructor
      · rw [mSlot_put_ne (Or.inl (by decide)), mSlot_put_ne (Or.inl (by decide)), mSlot_put_ne (Or.inl (by decide)), mSlot_put_eq (hT.hd (by decide) (by decide)) hx, mSlot_put_ne (Or.inl (by decide)), mSlot_put_eq (t6.hd (by decide) (by decide)) hx]
      · rw [mSlot_put_ne (Or.inl (by decide)), mSlot_put_ne (Or.inl (by decide)), mSlot_put_eq (t5.hd (by decide) (by decide)) hx, mSlot_put_eq (t7.hd (by decide) (by decide)) hx]
    · constructor
      · rw [mSlot_put_ne (Or.inl (by decide)), mSlot_put_ne (Or.inl (by decide)), mSlot_put_ne (Or.inl (by decide)), mSlot_put_ne (Or.inr w), mSlot_put_ne (Or.inl (by decide)), mSlot_put_ne (Or.inr w), mSlot_put_ne (Or.inl (by decide)), mSlot_put_ne (Or.inl (by decide))]
        exact e.1
      · rw [mSlot_put_ne (Or.inl (by decide)), mSlot_put_ne (Or.inl (by decide)), mSlot_put_ne (Or.inr w), mSlot_put_ne (Or.inl (by decide)), mSlot_put_ne (Or.inr w), mSlot_put_ne (Or.inl (by decide)), mSlot_put_ne (Or.inl (by decide)), mSlot_put_ne (Or.inl (by decide))]
        exact e.2
  · intro k hk
    rw [mSlot_put_ne (Or.inl (by decide)), mSlot_put_ne (Or.inl (by decide)), mSlot_put_ne (Or.inl (by decide)), mSlot_put_ne (Or.inl (by decide)), mSlot_put_ne (Or.inl (by decide)), mSlot_put_ne (Or.inl (by decide)), mSlot_put_ne (Or.inl (by decide)), mSlot_put_ne (Or.inl (by decide))]
    exact (aMem_x10 h).2.2.1 k hk
  · intro h0 k hk
    rw [pR_put (fun _ => rfl), pR_put (fun _ => rfl), pR_put (fun _ => rfl), pR_put (fun _ => rfl)]
    exact (aMem_x10 h).2.2.2.1 h0 k hk
  · refine xM_same (fun c j q => ?_) (aMem_x10 h).2.2.2.2.1
    have ok : c ≠ 5 ∧ c ≠ 6 ∧ c ≠ 183 ∧ c ≠ 184 := by unfold qM at q; omega
    rw [mSlot_put_ne (Or.inl ok.2.2.2), mSlot_put_ne (Or.inl ok.2.2.1), mSlot_put_ne (Or.inl ok.2.1), mSlot_put_ne (Or.inl ok.1)]
  · refine xK_same rfl rfl rfl (fun c j q => ?_) (aMem_x10 h).2.2.2.2.2
    have ok : c ≠ 5 ∧ c ≠ 6 ∧ c ≠ 183 ∧ c ≠ 184 := by unfold qN qA at q; omega
    rw [mSlot_put_ne (Or.inl ok.2.2.2), mSlot_put_ne (Or.inl ok.2.2.1), mSlot_put_ne (Or.inl ok.2.1), mSlot_put_ne (Or.inl ok.1)]
/-! feed, walked forwards -/
theorem mc_lt_f {x y : Int32} (h : ¬ x.toInt < y.toInt) : mCond .lt x y = false := decide_eq_false (fun q => h (Int32.lt_iff_toInt_lt.mp q))
theorem mc_ge_f {x y : Int32} (h : x.toInt < y.toInt) : mCond .ge x y = false := decide_eq_false (fun q => by have := Int32.le_iff_toInt_le.mp q; omega)
theorem mc_le_t {x y : Int32} (h : x.toInt ≤ y.toInt) : mCond .le x y = true := decide_eq_true (Int32.le_iff_toInt_le.mpr h)
theorem mc_le_f {x y : Int32} (h : y.toInt < x.toInt) : mCond .le x y = false := decide_eq_false (fun q => by have := Int32.le_iff_toInt_le.mp q; omega)
/-- what the telling of the tape may change -/
def fMod : List (Nat × Nat) := [(128, 0), (202, 0), (127, 1), (181, 25), (1007, 0), (1020, 0)]
/-- the memory's types and pictures, while the tape is told -/
def FM (s : List Int32) (γ : Gh) (M : Mem) : Prop := aTp s M ∧ tXI γ M
/-- the class has told j bytes of the words ws -/
def FC (s : List Int32) (γ : Gh) (M0 : Mem) (ws : Nat → Int32) (l : Nat) (j : Nat) (M : Mem) : Prop := FM s γ M ∧ aFr fMod M0 M ∧ (∃ x : Int32, mSlot M 127 1 = some (.int x) ∧ x.toInt = (l : Int) + j) ∧ (∀ q, q < j → mSlot M 128 (l + q) = some (.int (cby (ws (q / 4)) (q % 4)))) ∧ ∀ c i, (c = 127 → i ≠ 1) → (c = 128 → i < l ∨ l + j ≤ i) → mSlot M c i = mSlot M0 c i
/-- the reference has -/
def FR_ (s : List Int32) (γ : Gh) (M0 : Mem) (ws : Nat → Int32) (l : Nat) (j : Nat) (M : Mem) : Prop := FM s γ M ∧ aFr fMod M0 M ∧ (∃ x : Int32, mSlot M 181 25 = some (.int x) ∧ x.toInt = (l : Int) + j) ∧ (∀ q, q < j → mSlot M 202 (l + q) = some (.int (rby (ws (q / 4)) (q % 4)))) ∧ ∀ c i, (c = 181 → i ≠ 25) → (c = 202 → i < l ∨ l + j ≤ i) → mSlot M c i = mSlot M0 c i
section
variable {s : List Int32} {γ : Gh} {M : Mem}
theorem FM.put0 (h : FM s γ M) {a i : Nat} {v : Value} (hp : tPro0 (tGrp a) (aSlK a i) = false) (h2 : 2 ≤ a) (h3 : a < tEnd) (ht : aTy (tTy (tGrp a) i) v) : FM s γ (mPut M a i v) := by
  refine ⟨h.1.put h2 h3 ht, ?_⟩
  have q := h.2
  unfold tXI at q ⊢
  rw [xv_put0 hp]
  exact q
theorem FM.put2 (h : FM s γ M) (h7 : (γ 1007 0).toInt < 0) {i : Nat} {v : Int32} (v0 : -128 ≤ v.toInt) (v1 : v.toInt ≤ 127) : FM s γ (mPut M 202 i (.int v)) :=
  ⟨h.1.put (by decide) (by decide) ⟨v, rfl, v0, v1⟩, tape_put h.2.1 h.2.2.1 h.2.2.2.1 h.2.2.2.2.1 h.2.2.2.2.2.1 (fun h0 => absurd h0 (by omega)) h.2.2.2.2.2.2.2⟩
end
theorem app_it {s : List Int32} {γ : Gh} {M0 M : Mem} {ws : Nat → Int32} {l m q d : Nat} {L : MLoc} {Q : Option Value → Mem → Prop} (hq : q < 4) (hl : l + (4 * m + q) < 200) (h : FC s γ M0 ws l (4 * m + q) M) (hc : mCond .lt (shq q) 0 = false) (l0 : mLd L 0 = some (.ref 127)) (l1 : mLd L 1 = some (.int (ws m))) (l2 : mLd L 2 = some (.int (shq q))) (k : ∀ M', FC s γ M0 ws l (4 * m + q + 1) M' → Ok d 103 3 (mSt1 L 2 (.int (shq (q + 1)))) [] M' Q) : Ok d 103 3 L [] M Q := by
  obtain ⟨hM, hf, ⟨x, hx, ex⟩, hb, ho⟩ := h
  have hT := hM.1
  have em : (4 * m + q) / 4 = m := by omega
  have eq : (4 * m + q) % 4 = q := by omega
  have xn : x.toInt.toNat = l + (4 * m + q) := by omega
  refine kIload (mi := 103) (pc := 3) (len := 1) (i := 2) rfl l2 ?_
  refine kIfF (mi := 103) (pc := 4) (len := 3) (t := 49) rfl rfl hc ?_
  refine kAload (mi := 103) (pc := 7) (len := 1) (i := 0) rfl l0 ?_
  refine kGetf (mi := 103) (pc := 8) (len := 3) (j := 801) rfl (hT.hd (c := 127) (by decide) (by decide)) (by decide) hx ?_
  refine kIconst (mi := 103) (pc := 11) (len := 3) (v := 200) rfl ?_
  refine kIcF (mi := 103) (pc := 14) (len := 3) (t := 49) rfl rfl (mc_ge_f (by show x.toInt < 200; omega)) ?_
  refine kAload (mi := 103) (pc := 17) (len := 1) (i := 0) rfl l0 ?_
  refine kGetf (mi := 103) (pc := 18) (len := 3) (j := 800) rfl (hT.hd (c := 127) (by decide) (by decide)) (by decide) (hT.ref (c := 127) (i := 0) (g := 128) (by decide) (by decide) (by decide) (lo := 0) (hi' := 0) rfl rfl) ?_
  refine kAload (mi := 103) (pc := 21) (len := 1) (i := 0) rfl l0 ?_
  refine kGetf (mi := 103) (pc := 22) (len := 3) (j := 801) rfl (hT.hd (c := 127) (by decide) (by decide)) (by decide) hx ?_
  refine kIload (mi := 103) (pc := 25) (len := 1) (i := 1) rfl l1 ?_
  refine kIload (mi := 103) (pc := 26) (len := 1) (i := 2) rfl l2 ?_
  refine kUshr (mi := 103) (pc := 27) (len := 1) rfl ?_
  refine kIconst (mi := 103) (pc := 28) (len := 3) (v := 255) rfl ?_
  refine kAnd (mi := 103) (pc := 31) (len := 1) rfl ?_
  refine kIast (mi := 103) (pc := 32) (len := 1) (n := 200) rfl (hT.hd (c := 128) (by decide) (by decide)) (by decide) (by omega) (by show x.toInt < 200; omega) ?_
  have r := i32_and_r (x := ushr (ws m) (shq q)) (y := (255 : Int32)) (by decide)
  have r2 : (cby (ws m) q).toInt ≤ 255 := r.2
  have r1 : 0 ≤ (cby (ws m) q).toInt := r.1
  obtain ⟨A, eA⟩ : ∃ A, A = mPut M 128 x.toInt.toNat (.int (cby (ws m) q)) := ⟨_, rfl⟩
  have hA : FM s γ A := by rw [eA]; exact hM.put0 rfl (by decide) (by decide) (show aTy (tTy (tGrp 128) _) _ from ⟨_, rfl, by show (0 : Int) ≤ _; omega, by show _ ≤ (255 : Int); omega⟩)
  have nA : ∀ c i, (c ≠ 128 ∨ i ≠ x.toInt.toNat) → mSlot A c i = mSlot M c i := fun c i h => by rw [eA]; exact mSlot_put_ne h
  have vA : mSlot A 128 (l + (4 * m + q)) = some (.int (cby (ws m) q)) := by rw [← xn, eA]; exact mSlot_put_eq (hT.hd (c := 128) (by decide) (by decide)) (by show x.toInt.toNat < 200; omega)
  have fA : aFr fMod M0 A := by rw [eA]; exact hf.tr (aFr_put rfl)
  have hTA := hA.1
  have hxA : mSlot A 127 1 = some (.int x) := (nA 127 1 (Or.inl (by decide))).trans hx
  show Ok d 103 (32 + 1) L [] (mPut M 128 x.toInt.toNat (.int (cby (ws m) q))) Q
  rw [← eA]
  refine kAload (mi := 103) (pc := 33) (len := 1) (i := 0) rfl l0 ?_
  refine kDupR (mi := 103) (pc := 34) (len := 1) rfl ?_
  refine kGetf (mi := 103) (pc := 35) (len := 3) (j := 801) rfl (hTA.hd (c := 127) (by decide) (by decide)) (by decide) hxA ?_
  refine kIconst (mi := 103) (pc := 38) (len := 1) (v := 1) rfl ?_
  refine kAdd (mi := 103) (pc := 39) (len := 1) rfl ?_
  refine kPutf (mi := 103) (pc := 40) (len := 3) (j := 801) rfl (hTA.hd (c := 127) (by decide) (by decide)) (by decide) (by decide) rfl ?_
  refine kIinc (mi := 103) (pc := 43) (len := 3) (i := 2) rfl l2 (by decide) ?_
  refine kGoto (mi := 103) (pc := 46) (len := 3) (t := 3) rfl rfl ?_
  have e1 : (x + Int32.ofInt 1).toInt = x.toInt + 1 := ic1 (x := x) rfl (by omega) (by omega)
  refine k _ ⟨hA.put0 rfl (by decide) (by decide) (show aTy (tTy (tGrp 127) 1) _ from ⟨_, rfl, by show (0 : Int) ≤ _; omega, by show _ ≤ (200 : Int); omega⟩), fA.tr (aFr_put rfl), ⟨x + Int32.ofInt 1, mSlot_put_eq (hTA.hd (c := 127) (by decide) (by decide)) (by decide), by omega⟩, fun p hp => ?_, fun c i h1 h2 => ?_⟩
  · rw [mSlot_put_ne (Or.inl (by decide))]
    by_cases e : p = 4 * m + q
    · subst e
      rw [em, eq]
      exact vA
    · rw [nA 128 _ (Or.inr (by omega))]
      exact hb p (by omega)
  · rw [mSlot_put_ne (by by_cases e : c = 127; exact Or.inr (h1 e); exact Or.inl e), nA c i (by by_cases e : c = 128; exact Or.inr (by have := h2 e; omega); exact Or.inl e)]
    exact ho c i h1 (fun e => by have := h2 e; omega)
theorem app_ok {s : List Int32} {γ : Gh} {M0 M : Mem} {ws : Nat → Int32} {l m d : Nat} (hl : l + (4 * m + 4) ≤ 200) (h : FC s γ M0 ws l (4 * m) M) : Ok d 103 0 (lv_args 0 [.ref 127, .int (ws m)]) [] M (fun r M' => r = none ∧ FC s γ M0 ws l (4 * (m + 1)) M') := by
  refine kIconst (mi := 103) (pc := 0) (len := 2) (v := 24) rfl ?_
  refine kIstore (mi := 103) (pc := 2) (len := 1) (i := 2) rfl (by decide) ?_
  refine app_it (m := m) (q := 0) (by decide) (by omega) h rfl rfl rfl rfl ?_
  intro M1 h1
  refine app_it (m := m) (q := 1) (by decide) (by omega) h1 rfl rfl rfl rfl ?_
  intro M2 h2
  refine app_it (m := m) (q := 2) (by decide) (by omega) h2 rfl rfl rfl rfl ?_
  intro M3 h3
  refine app_it (m := m) (q := 3) (by decide) (by omega) h3 rfl rfl rfl rfl ?_
  intro M4 h4
  refine kIload (mi := 103) (pc := 3) (len := 1) (i := 2) (x := shq 4) rfl rfl ?_
  refine kIfT (mi := 103) (pc := 4) (len := 3) (t := 49) rfl rfl rfl ?_
  exact kRetV (mi := 103) (pc := 49) (len := 1) rfl rfl ⟨rfl, by rw [show 4 * (m + 1) = 4 * m + 3 + 1 by omega]; exact h4⟩
theorem typ_it {s : List Int32} {γ : Gh} {M0 M : Mem} {ws : Nat → Int32} {l m q d : Nat} {L : MLoc} {Q : Option Value → Mem → Prop} (h7 : (γ 1007 0).toInt < 0) (hq : q < 4) (hl : l + (4 * m + q) < 200) (h : FR_ s γ M0 ws l (4 * m + q) M) (hc : mCond .lt (rsq q) 0 = false) (l0 : mLd L 0 = some (.ref 181)) (l1 : mLd L 1 = some (.int (ws m))) (l2 : mLd L 2 = some (.int (rsq q))) (k : ∀ M', FR_ s γ M0 ws l (4 * m + q + 1) M' → Ok d 190 2 (mSt1 L 2 (.int (rsq (q + 1)))) [] M' Q) : Ok d 190 2 L [] M Q := by
  obtain ⟨hM, hf, ⟨x, hx, ex⟩, hb, ho⟩ := h
  have hT := hM.1
  have em : (4 * m + q) / 4 = m := by omega
  have eq : (4 * m + q) % 4 = q := by omega
  have xn : x.toInt.toNat = l + (4 * m + q) := by omega
  refine kIload (mi := 190) (pc := 2) (len := 1) (i := 2) rfl l2 ?_
  refine kIfF (mi := 190) (pc := 3) (len := 3) (t := 38) rfl rfl hc ?_
  refine kAload (mi := 190) (pc := 6) (len := 1) (i := 0) rfl l0 ?_
  refine kGetf (mi := 190) (pc := 7) (len := 3) (j := 1124) rfl (hT.hd (c := 181) (by decide) (by decide)) (by decide) (hT.ref (c := 181) (i := 24) (g := 202) (by decide) (by decide) (by decide) (lo := 0) (hi' := 0) rfl rfl) ?_
  refine kAload (mi := 190) (pc := 10) (len := 1) (i := 0) rfl l0 ?_
  refine kGetf (mi := 190) (pc := 11) (len := 3) (j := 1125) rfl (hT.hd (c := 181) (by decide) (by decide)) (by decide) hx ?_
  refine kIload (mi := 190) (pc := 14) (len := 1) (i := 1) rfl l1 ?_
  refine kIconst (mi := 190) (pc := 15) (len := 2) (v := 8) rfl ?_
  refine kIload (mi := 190) (pc := 17) (len := 1) (i := 2) rfl l2 ?_
  refine kMul (mi := 190) (pc := 18) (len := 1) rfl ?_
  refine kShr (mi := 190) (pc := 19) (len := 1) rfl ?_
  refine Ok.pl (mi := 190) (pc := 20) (len := 1) (ins := .i2b) rfl rfl ?_
  refine kBast (mi := 190) (pc := 21) (len := 1) (n := 200) (t := 66) (z := rby (ws m) q) rfl (hT.hd (c := 202) (by decide) (by decide)) (by decide) (by omega) (by show x.toInt < 200; omega) rfl ?_
  have r := i2b_rg ((ws m >>> (((8 : Int32) * rsq q) &&& 31)).toInt8.toInt32)
  obtain ⟨A, eA⟩ : ∃ A, A = mPut M 202 x.toInt.toNat (.int (rby (ws m) q)) := ⟨_, rfl⟩
  have hA : FM s γ A := by rw [eA]; exact hM.put2 h7 r.1 r.2
  have nA : ∀ c i, (c ≠ 202 ∨ i ≠ x.toInt.toNat) → mSlot A c i = mSlot M c i := fun c i h => by rw [eA]; exact mSlot_put_ne h
  have vA : mSlot A 202 (l + (4 * m + q)) = some (.int (rby (ws m) q)) := by rw [← xn, eA]; exact mSlot_put_eq (hT.hd (c := 202) (by decide) (by decide)) (by show x.toInt.toNat < 200; omega)
  have fA : aFr fMod M0 A := by rw [eA]; exact hf.tr (aFr_put rfl)
  have hTA := hA.1
  have hxA : mSlot A 181 25 = some (.int x) := (nA 181 25 (Or.inl (by decide))).trans hx
  rw [← eA]
  refine kAload (mi := 190) (pc := 22) (len := 1) (i := 0) rfl l0 ?_
  refine kAload (mi := 190) (pc := 23) (len := 1) (i := 0) rfl l0 ?_
  refine kGetf (mi := 190) (pc := 24) (len := 3) (j := 1125) rfl (hTA.hd (c := 181) (by decide) (by decide)) (by decide) hxA ?_
  refine kIconst (mi := 190) (pc := 27) (len := 1) (v := 1) rfl ?_
  refine kAdd (mi := 190) (pc := 28) (len := 1) rfl ?_
  refine kPutf (mi := 190) (pc := 29) (len := 3) (j := 1125) rfl (hTA.hd (c := 181) (by decide) (by decide)) (by decide) (by decide) rfl ?_
  refine kIinc (mi := 190) (pc := 32) (len := 3) (i := 2) rfl l2 (by decide) ?_
  refine kGoto (mi := 190) (pc := 35) (len := 3) (t := 2) rfl rfl ?_
  have e1 : (x + Int32.ofInt 1).toInt = x.toInt + 1 := ic1 (x := x) rfl (by omega) (by omega)
  refine k _ ⟨hA.put0 rfl (by decide) (by decide) (show aTy (tTy (tGrp 181) 25) _ from ⟨_, rfl, by show (0 : Int) ≤ _; omega, by show _ ≤ (200 : Int); omega⟩), fA.tr (aFr_put rfl), ⟨x + Int32.ofInt 1, mSlot_put_eq (hTA.hd (c := 181) (by decide) (by decide)) (by decide), by omega⟩, fun p hp => ?_, fun c i h1 h2 => ?_⟩
  · rw [mSlot_put_ne (Or.inl (by decide))]
    by_cases e : p = 4 * m + q
    · subst e
      rw [em, eq]
      exact vA
    · rw [nA 202 _ (Or.inr (by omega))]
      exact hb p (by omega)
  · rw [mSlot_put_ne (by by_cases e : c = 181; exact Or.inr (h1 e); exact Or.inl e), nA c i (by by_cases e : c = 202; exact Or.inr (by have := h2 e; omega); exact Or.inl e)]
    exact ho c i h1 (fun e => by have := h2 e; omega)
theorem typ_ok {s : List Int32} {γ : Gh} {M0 M : Mem} {ws : Nat → Int32} {l m d : Nat} (h7 : (γ 1007 0).toInt < 0) (hl : l + (4 * m + 4) ≤ 200) (h : FR_ s γ M0 ws l (4 * m) M) : Ok d 190 0 (lv_args 0 [.ref 181, .int (ws m)]) [] M (fun r M' => r = none ∧ FR_ s γ M0 ws l (4 * (m + 1)) M') := by
  refine kIconst (mi := 190) (pc := 0) (len := 1) (v := 3) rfl ?_
  refine kIstore (mi := 190) (pc := 1) (len := 1) (i := 2) rfl (by decide) ?_
  refine typ_it h7 (m := m) (q := 0) (by decide) (by omega) h rfl rfl rfl rfl ?_
  intro M1 h1
  refine typ_it h7 (m := m) (q := 1) (by decide) (by omega) h1 rfl rfl rfl rfl ?_
  intro M2 h2
  refine typ_it h7 (m := m) (q := 2) (by decide) (by omega) h2 rfl rfl rfl rfl ?_
  intro M3 h3
  refine typ_it h7 (m := m) (q := 3) (by decide) (by omega) h3 rfl rfl rfl rfl ?_
  intro M4 h4
  refine kIload (mi := 190) (pc := 2) (len := 1) (i := 2) (x := rsq 4) rfl rfl ?_
  refine kIfT (mi := 190) (pc := 3) (len := 3) (t := 38) rfl rfl rfl ?_
  exact kRetV (mi := 190) (pc := 38) (len := 1) rfl rfl ⟨rfl, by rw [show 4 * (m + 1) = 4 * m + 3 + 1 by omega]; exact h4⟩
theorem feedC_ok {s : List Int32} {γ : Gh} {M : Mem} {a b c e f x : Int32} {d : Nat} (hd : 2 ≤ d) (hM : FM s γ M) (hx : mSlot M 127 1 = some (.int x)) (x0 : 0 ≤ x.toInt) (x1 : x.toInt ≤ 200) : Ok d 119 0 (lv_args 0 [.ref 2, .int a, .int b, .int c, .int e, .int f]) [] M (fun r M' => ∃ y, r = some (.int y) ∧ ((x.toInt ≤ 180 ∧ FC s γ M (fun k => if k = 0 then a else if k = 1 then b else if k = 2 then c else if k = 3 then e else f) x.toInt.toNat 20 M') ∨ (180 < x.toInt ∧ M' = M))) := by
  have hT := hM.1
  have e20 : (x + (20 : Int32)).toInt = x.toInt + 20 := by rw [i32_add (by show -2147483648 ≤ x.toInt + 20; omega) (by show x.toInt + 20 ≤ 2147483647; omega)]; rfl
  refine kAload (mi := 119) (pc := 0) (len := 1) (i := 0) rfl rfl ?_
  refine kGetf (mi := 119) (pc := 1) (len := 3) (j := 1005) rfl (hT.hd (c := 2) (by decide) (by decide)) (by decide) (hT.ref (c := 2) (i := 5) (g := 127) (by decide) (by decide) (by decide) (lo := 0) (hi' := 0) rfl rfl) ?_
  refine kGetf (mi := 119) (pc := 4) (len := 3) (j := 801) rfl (hT.hd (c := 127) (by decide) (by decide)) (by decide) hx ?_
  refine kIconst (mi := 119) (pc := 7) (len := 2) (v := 20) rfl ?_
  refine kAdd (mi := 119) (pc := 9) (len := 1) rfl ?_
  refine kIconst (mi := 119) (pc := 10) (len := 3) (v := 200) rfl ?_
  by_cases hg : x.toInt ≤ 180
  · refine kIcT (mi := 119) (pc := 13) (len := 3) (t := 18) rfl rfl (mc_le_t (by show (x + (20 : Int32)).toInt ≤ 200; omega)) ?_
    have h0 : FC s γ M (fun k => if k = 0 then a else if k = 1 then b else if k = 2 then c else if k = 3 then e else f) x.toInt.toNat (4 * 0) M := ⟨hM, aFr.rf, ⟨x, hx, by omega⟩, fun q hq => absurd hq (by omega), fun _ _ _ _ => rfl⟩
    refine kAload (mi := 119) (pc := 18) (len := 1) (i := 0) rfl rfl ?_
    refine kGetf (mi := 119) (pc := 19) (len := 3) (j := 1005) rfl (h0.1.1.hd (c := 2) (by decide) (by decide)) (by decide) (h0.1.1.ref (c := 2) (i := 5) (g := 127) (by decide) (by decide) (by decide) (lo := 0) (hi' := 0) rfl rfl) ?_
    refine kIload (mi := 119) (pc := 22) (len := 1) (i := 1) (x := a) rfl rfl ?_
    refine Ok.call (mi := 119) (pc := 23) (j := 103) (len := 3) rfl (Or.inr (Or.inl rfl)) (by decide) (mCall_ok (n := 2) (l := 3) (rk := 0) (own := 8) (kd := 1) (as := [.ref 127, .int a]) (rest := []) (by omega) (by decide) rfl rfl rfl rfl rfl rfl (Or.inr (Or.inl ⟨rfl, (tag_of h0.1.1 (a := 127) (by decide) (by decide)).trans rfl⟩))) ?_
    refine (app_ok (m := 0) (by omega) h0).mono ?_
    intro r1 M1 hr1
    obtain ⟨er1, h1⟩ := hr1
    subst er1
    refine kAload (mi := 119) (pc := 26) (len := 1) (i := 0) rfl rfl ?_
    refine kGetf (mi := 119) (pc := 27) (len := 3) (j := 1005) rfl (h1.1.1.hd (c := 2) (by decide) (by decide)) (by decide) (h1.1.1.ref (c := 2) (i := 5) (g := 127) (by decide) (by decide) (by decide) (lo := 0) (hi' := 0) rfl rfl) ?_
    refine kIload (mi := 119) (pc := 30) (len := 1) (i := 2) (x := b) rfl rfl ?_
    refine Ok.call (mi := 119) (pc := 31) (j := 103) (len := 3) rfl (Or.inr (Or.inl rfl)) (by decide) (mCall_ok (n := 2) (l := 3) (rk := 0) (own := 8) (kd := 1) (as := [.ref 127, .int b]) (rest := []) (by omega) (by decide) rfl rfl rfl rfl rfl rfl (Or.inr (Or.inl ⟨rfl, (tag_of h1.1.1 (a := 127) (by decide) (by decide)).trans rfl⟩))) ?_
    refine (app_ok (m := 1) (by omega) h1).mono ?_
    intro r2 M2 hr2
    obtain ⟨er2, h2⟩ := hr2
    subst er2
    refine kAload (mi := 119) (pc := 34) (len := 1) (i := 0) rfl rfl ?_
    refine kGetf (mi := 119) (pc := 35) (len := 3) (j := 1005) rfl (h2.1.1.hd (c := 2) (by decide) (by decide)) (by decide) (h2.1.1.ref (c := 2) (i := 5) (g := 127) (by decide) (by decide) (by decide) (lo := 0) (hi' := 0) rfl rfl) ?_
    refine kIload (mi := 119) (pc := 38) (len := 1) (i := 3) (x := c) rfl rfl ?_
    refine Ok.call (mi := 119) (pc := 39) (j := 103) (len := 3) rfl (Or.inr (Or.inl rfl)) (by decide) (mCall_ok (n := 2) (l := 3) (rk := 0) (own := 8) (kd := 1) (as := [.ref 127, .int c]) (rest := []) (by omega) (by decide) rfl rfl rfl rfl rfl rfl (Or.inr (Or.inl ⟨rfl, (tag_of h2.1.1 (a := 127) (by decide) (by decide)).trans rfl⟩))) ?_
    refine (app_ok (m := 2) (by omega) h2).mono ?_
    intro r3 M3 hr3
    obtain ⟨er3, h3⟩ := hr3
    subst er3
    refine kAload (mi := 119) (pc := 42) (len := 1) (i := 0) rfl rfl ?_
    refine kGetf (mi := 119) (pc := 43) (len := 3) (j := 1005) rfl (h3.1.1.hd (c := 2) (by decide) (by decide)) (by decide) (h3.1.1.ref (c := 2) (i := 5) (g := 127) (by decide) (by decide) (by decide) (lo := 0) (hi' := 0) rfl rfl) ?_
    refine kIload (mi := 119) (pc := 46) (len := 2) (i := 4) (x := e) rfl rfl ?_
    refine Ok.call (mi := 119) (pc := 48) (j := 103) (len := 3) rfl (Or.inr (Or.inl rfl)) (by decide) (mCall_ok (n := 2) (l := 3) (rk := 0) (own := 8) (kd := 1) (as := [.ref 127, .int e]) (rest := []) (by omega) (by decide) rfl rfl rfl rfl rfl rfl (Or.inr (Or.inl ⟨rfl, (tag_of h3.1.1 (a := 127) (by decide) (by decide)).trans rfl⟩))) ?_
    refine (app_ok (m := 3) (by omega) h3).mono ?_
    intro r4 M4 hr4
    obtain ⟨er4, h4⟩ := hr4
    subst er4
    refine kAload (mi := 119) (pc := 51) (len := 1) (i := 0) rfl rfl ?_
    refine kGetf (mi := 119) (pc := 52) (len := 3) (j := 1005) rfl (h4.1.1.hd (c := 2) (by decide) (by decide)) (by decide) (h4.1.1.ref (c := 2) (i := 5) (g := 127) (by decide) (by decide) (by decide) (lo := 0) (hi' := 0) rfl rfl) ?_
    refine kIload (mi := 119) (pc := 55) (len := 2) (i := 5) (x := f) rfl rfl ?_
    refine Ok.call (mi := 119) (pc := 57) (j := 103) (len := 3) rfl (Or.inr (Or.inl rfl)) (by decide) (mCall_ok (n := 2) (l := 3) (rk := 0) (own := 8) (kd := 1) (as := [.ref 127, .int f]) (rest := []) (by omega) (by decide) rfl rfl rfl rfl rfl rfl (Or.inr (Or.inl ⟨rfl, (tag_of h4.1.1 (a := 127) (by decide) (by decide)).trans rfl⟩))) ?_
    refine (app_ok (m := 4) (by omega) h4).mono ?_
    intro r5 M5 hr5
    obtain ⟨er5, h5⟩ := hr5
    subst er5
    obtain ⟨y, hy, _⟩ := h5.2.2.1
    refine kAload (mi := 119) (pc := 60) (len := 1) (i := 0) rfl rfl ?_
    refine kGetf (mi := 119) (pc := 61) (len := 3) (j := 1005) rfl (h5.1.1.hd (c := 2) (by decide) (by decide)) (by decide) (h5.1.1.ref (c := 2) (i := 5) (g := 127) (by decide) (by decide) (by decide) (lo := 0) (hi' := 0) rfl rfl) ?_
    refine kGetf (mi := 119) (pc := 64) (len := 3) (j := 801) rfl (h5.1.1.hd (c := 127) (by decide) (by decide)) (by decide) hy ?_
    exact kRetI (mi := 119) (pc := 67) (len := 1) rfl (Or.inl rfl) ⟨y, rfl, Or.inl ⟨hg, h5⟩⟩
  · refine kIcF (mi := 119) (pc := 13) (len := 3) (t := 18) rfl rfl (mc_le_f (by show 200 < (x + (20 : Int32)).toInt; omega)) ?_
    refine kIconst (mi := 119) (pc := 16) (len := 1) (v := -1) rfl ?_
    exact kRetI (mi := 119) (pc := 17) (len := 1) rfl (Or.inl rfl) ⟨_, rfl, Or.inr ⟨by omega, rfl⟩⟩
theorem feedR_ok {s : List Int32} {γ : Gh} {M : Mem} {a b c e f x : Int32} {d : Nat} (h7 : (γ 1007 0).toInt < 0) (hd : 2 ≤ d) (hM : FM s γ M) (hx : mSlot M 181 25 = some (.int x)) (x0 : 0 ≤ x.toInt) (x1 : x.toInt ≤ 200) : Ok d 191 0 (lv_args 0 [.ref 181, .int a, .int b, .int c, .int e, .int f]) [] M (fun r M' => ∃ y, r = some (.int y) ∧ ((x.toInt ≤ 180 ∧ FR_ s γ M (fun k => if k = 0 then a else if k = 1 then b else if k = 2 then c else if k = 3 then e else f) x.toInt.toNat 20 M') ∨ (180 < x.toInt ∧ M' = M))) := by
  have hT := hM.1
  have e20 : (x + (20 : Int32)).toInt = x.toInt + 20 := by rw [i32_add (by show -2147483648 ≤ x.toInt + 20; omega) (by show x.toInt + 20 ≤ 2147483647; omega)]; rfl
  refine kAload (mi := 191) (pc := 0) (len := 1) (i := 0) rfl rfl ?_
  refine kGetf (mi := 191) (pc := 1) (len := 3) (j := 1125) rfl (hT.hd (c := 181) (by decide) (by decide)) (by decide) hx ?_
  refine kIconst (mi := 191) (pc := 4) (len := 2) (v := 20) rfl ?_
  refine kAdd (mi := 191) (pc := 6) (len := 1) rfl ?_
  refine kIconst (mi := 191) (pc := 7) (len := 3) (v := 200) rfl ?_
  by_cases hg : x.toInt ≤ 180
  · refine kIcT (mi := 191) (pc := 10) (len := 3) (t := 15) rfl rfl (mc_le_t (by show (x + (20 : Int32)).toInt ≤ 200; omega)) ?_
    have h0 : FR_ s γ M (fun k => if k = 0 then a else if k = 1 then b else if k = 2 then c else if k = 3 then e else f) x.toInt.toNat (4 * 0) M := ⟨hM, aFr.rf, ⟨x, hx, by omega⟩, fun q hq => absurd hq (by omega), fun _ _ _ _ => rfl⟩
    refine kAload (mi := 191) (pc := 15) (len := 1) (i := 0) rfl rfl ?_
    refine kIload (mi := 191) (pc := 16) (len := 1) (i := 1) (x := a) rfl rfl ?_
    refine Ok.call (mi := 191) (pc := 17) (j := 190) (len := 3) rfl (Or.inr (Or.inl rfl)) (by decide) (mCall_ok (n := 2) (l := 3) (rk := 0) (own := 11) (kd := 1) (as := [.ref 181, .int a]) (rest := []) (by omega) (by decide) rfl rfl rfl rfl rfl rfl (Or.inr (Or.inl ⟨rfl, (tag_of h0.1.1 (a := 181) (by decide) (by decide)).trans rfl⟩))) ?_
    refine (typ_ok h7 (m := 0) (by omega) h0).mono ?_
    intro r1 M1 hr1
    obtain ⟨er1, h1⟩ := hr1
    subst er1
    refine kAload (mi := 191) (pc := 20) (len := 1) (i := 0) rfl rfl ?_
    refine kIload (mi := 191) (pc := 21) (len := 1) (i := 2) (x := b) rfl rfl ?_
    refine Ok.call (mi := 191) (pc := 22) (j := 190) (len := 3) rfl (Or.inr (Or.inl rfl)) (by decide) (mCall_ok (n := 2) (l := 3) (rk := 0) (own := 11) (kd := 1) (as := [.ref 181, .int b]) (rest := []) (by omega) (by decide) rfl rfl rfl rfl rfl rfl (Or.inr (Or.inl ⟨rfl, (tag_of h1.1.1 (a := 181) (by decide) (by decide)).trans rfl⟩))) ?_
    refine (typ_ok h7 (m := 1) (by omega) h1).mono ?_
    intro r2 M2 hr2
    obtain ⟨er2, h2⟩ := hr2
    subst er2
    refine kAload (mi := 191) (pc := 25) (len := 1) (i := 0) rfl rfl ?_
    refine kIload (mi := 191) (pc := 26) (len := 1) (i := 3) (x := c) rfl rfl ?_
    refine Ok.call (mi := 191) (pc := 27) (j := 190) (len := 3) rfl (Or.inr (Or.inl rfl)) (by decide) (mCall_ok (n := 2) (l := 3) (rk := 0) (own := 11) (kd := 1) (as := [.ref 181, .int c]) (rest := []) (by omega) (by decide) rfl rfl rfl rfl rfl rfl (Or.inr (Or.inl ⟨rfl, (tag_of h2.1.1 (a := 181) (by decide) (by decide)).trans rfl⟩))) ?_
    refine (typ_ok h7 (m := 2) (by omega) h2).mono ?_
    intro r3 M3 hr3
    obtain ⟨er3, h3⟩ := hr3
    subst er3
    refine kAload (mi := 191) (pc := 30) (len := 1) (i := 0) rfl rfl ?_
    refine kIload (mi := 191) (pc := 31) (len := 2) (i := 4) (x := e) rfl rfl ?_
    refine Ok.call (mi := 191) (pc := 33) (j := 190) (len := 3) rfl (Or.inr (Or.inl rfl)) (by decide) (mCall_ok (n := 2) (l := 3) (rk := 0) (own := 11) (kd := 1) (as := [.ref 181, .int e]) (rest := []) (by omega) (by decide) rfl rfl rfl rfl rfl rfl (Or.inr (Or.inl ⟨rfl, (tag_of h3.1.1 (a := 181) (by decide) (by decide)).trans rfl⟩))) ?_
    refine (typ_ok h7 (m := 3) (by omega) h3).mono ?_
    intro r4 M4 hr4
    obtain ⟨er4, h4⟩ := hr4
    subst er4
    refine kAload (mi := 191) (pc := 36) (len := 1) (i := 0) rfl rfl ?_
    refine kIload (mi := 191) (pc := 37) (len := 2) (i := 5) (x := f) rfl rfl ?_
    refine Ok.call (mi := 191) (pc := 39) (j := 190) (len := 3) rfl (Or.inr (Or.inl rfl)) (by decide) (mCall_ok (n := 2) (l := 3) (rk := 0) (own := 11) (kd := 1) (as := [.ref 181, .int f]) (rest := []) (by omega) (by decide) rfl rfl rfl rfl rfl rfl (Or.inr (Or.inl ⟨rfl, (tag_of h4.1.1 (a := 181) (by decide) (by decide)).trans rfl⟩))) ?_
    refine (typ_ok h7 (m := 4) (by omega) h4).mono ?_
    intro r5 M5 hr5
    obtain ⟨er5, h5⟩ := hr5
    subst er5
    obtain ⟨y, hy, _⟩ := h5.2.2.1
    refine kAload (mi := 191) (pc := 42) (len := 1) (i := 0) rfl rfl ?_
    refine kGetf (mi := 191) (pc := 43) (len := 3) (j := 1125) rfl (h5.1.1.hd (c := 181) (by decide) (by decide)) (by decide) hy ?_
    exact kRetI (mi := 191) (pc := 46) (len := 1) rfl (Or.inl rfl) ⟨y, rfl, Or.inl ⟨hg, h5⟩⟩
  · refine kIcF (mi := 191) (pc := 10) (len := 3) (t := 15) rfl rfl (mc_le_f (by show 200 < (x + (20 : Int32)).toInt; omega)) ?_
    refine kIconst (mi := 191) (pc := 13) (len := 1) (v := -1) rfl ?_
    exact kRetI (mi := 191) (pc := 14) (len := 1) rfl (Or.inl rfl) ⟨_, rfl, Or.inr ⟨by omega, rfl⟩⟩
theorem gs_c1 {s : List Int32} : gSound s sg_c1 := by
  intro γ d σ L st0 st M Q hd hA k
  have hst := hd.2 (by show 1 ≤ 5; decide)
  have hd := hd.1
  have hd : 5 ≤ d := hd
  have h := aHoldX_0 hA
  have e0 := eNil h
  subst e0
  subst hst
  obtain ⟨l0, el⟩ := eS h rfl
  have el : σ 1 = (s.length : Int) := el
  have l1 := eR h (i := 1) (g := 2) (c := 0) rfl rfl
  have l2 := eR h (i := 2) (g := 181) (c := 0) rfl rfl
  obtain ⟨l3, hl3, el3⟩ := eI h (i := 3) (sy := 2) (c := 0) rfl
  have b1 := eB h (i := 1) (lo := 0) (hi := 576) rfl
  have b2 := eB h (i := 2) (lo := 0) (hi := 576) rfl
  have b3 := eB h (i := 3) (lo := (-2147483648)) (hi := 2147483647) rfl
  have b4 := eB h (i := 4) (lo := (-2147483648)) (hi := 2147483647) rfl
  have b5 := eB h (i := 5) (lo := (-2147483648)) (hi := 2147483647) rfl
  have z0 := (h.1.2.1.2.2 2 1 (-9) (List.Mem.head _)).2.2
  have s0 := h.1.2.1.1
  have hM := hA.2.2.2
  have h8 : x8 (s, γ) := hM.1.2.1
  have hT := aTp_of (aMem_0 (aMem_to9 hM))
  have q10_0 : (γ 1010 0).toInt = σ 2 + 0 := eG h (g := 1010) (i := 0) (sy := 2) (c := 0) (by decide) (List.Mem.head _)
  have q11_1 : (γ 1011 1).toInt = σ 3 + 0 := eG h (g := 1011) (i := 1) (sy := 3) (c := 0) (by decide) (List.Mem.tail _ (List.Mem.head _))
  have q11_2 : (γ 1011 2).toInt = σ 4 + 0 := eG h (g := 1011) (i := 2) (sy := 4) (c := 0) (by decide) (List.Mem.tail _ (List.Mem.tail _ (List.Mem.head _)))
  have q11_3 : (γ 1011 3).toInt = σ 5 + 0 := eG h (g := 1011) (i := 3) (sy := 5) (c := 0) (by decide) (List.Mem.tail _ (List.Mem.tail _ (List.Mem.tail _ (List.Mem.head _))))
  refine kAload (mi := 282) (pc := 233) (len := 1) (i := 1) rfl l1 ?_
  refine kArg (pc := 234) (c := 1) (ln := 1) (ci := 1) (γ := γ) rfl rfl rfl rfl rfl rfl (by decide) (by decide) l0 hl3 hT h8 (by omega) (by omega) (by omega) (by omega) ?_
  refine kArg (pc := 239) (c := 2) (ln := 1) (ci := 2) (γ := γ) rfl rfl rfl rfl rfl rfl (by decide) (by decide) l0 hl3 hT h8 (by omega) (by omega) (by omega) (by omega) ?_
  refine kArg (pc := 244) (c := 3) (ln := 1) (ci := 3) (γ := γ) rfl rfl rfl rfl rfl rfl (by decide) (by decide) l0 hl3 hT h8 (by omega) (by omega) (by omega) (by omega) ?_
  refine Ok.call (mi := 282) (pc := 249) (j := 110) (len := 3) rfl (Or.inr (Or.inl rfl)) (by decide) (mCall_ok (n := 4) (l := 4) (rk := 2) (own := 10) (kd := 1) (as := [.ref 2, .int (γ 1011 1), .int (γ 1011 2), .int (γ 1011 3)]) (rest := []) (by omega) (by decide) rfl rfl rfl rfl rfl rfl (Or.inr (Or.inl ⟨rfl, (tag_of hT (a := 2) (by decide) (by decide)).trans rfl⟩))) ?_
  refine (stripC_ok (by omega) hT).mono ?_
  intro r1 M1 hr1
  obtain ⟨er1, eM1⟩ := hr1
  subst er1
  refine kPopI (mi := 282) (pc := 252) (len := 1) rfl ?_
  refine kAload (mi := 282) (len := 1) (i := 2) rfl l2 ?_
  have hT1 : aTp s M1 := by
    rw [eM1]
    cases hb : (bStr (γ 1011 1) && (bPer (γ 1011 2) && bIn (γ 1011 3) 3)) with
    | false => exact hT
    | true =>
      rw [Bool.and_eq_true, Bool.and_eq_true] at hb
      have g1 := bStr_true hb.1
      have g2 := bPer_true hb.2.1
      have g3 := bIn3_true hb.2.2
      exact (hT.put (a := 5) (i := (γ 1011 1).toInt.toNat) (v := .int (γ 1011 2)) (by decide) (by decide) (show aTy (tTy (tGrp 5) _) _ from ⟨γ 1011 2, rfl, by show (0 : Int) ≤ _; omega, by show _ ≤ (9 : Int); omega⟩)).put (a := 6) (i := (γ 1011 1).toInt.toNat) (v := .int (γ 1011 3)) (by decide) (by decide) (show aTy (tTy (tGrp 6) _) _ from ⟨γ 1011 3, rfl, by show (0 : Int) ≤ _; omega, by show _ ≤ (2 : Int); omega⟩)
  refine kArg (pc := 254) (c := 1) (ln := 1) (ci := 1) (γ := γ) rfl rfl rfl rfl rfl rfl (by decide) (by decide) l0 hl3 hT1 h8 (by omega) (by omega) (by omega) (by omega) ?_
  refine kArg (pc := 259) (c := 2) (ln := 1) (ci := 2) (γ := γ) rfl rfl rfl rfl rfl rfl (by decide) (by decide) l0 hl3 hT1 h8 (by omega) (by omega) (by omega) (by omega) ?_
  refine kArg (pc := 264) (c := 3) (ln := 1) (ci := 3) (γ := γ) rfl rfl rfl rfl rfl rfl (by decide) (by decide) l0 hl3 hT1 h8 (by omega) (by omega) (by omega) (by omega) ?_
  refine Ok.call (mi := 282) (pc := 269) (j := 166) (len := 3) rfl (Or.inr (Or.inl rfl)) (by decide) (mCall_ok (n := 4) (l := 4) (rk := 2) (own := 11) (kd := 1) (as := [.ref 181, .int (γ 1011 1), .int (γ 1011 2), .int (γ 1011 3)]) (rest := []) (by omega) (by decide) rfl rfl rfl rfl rfl rfl (Or.inr (Or.inl ⟨rfl, (tag_of hT1 (a := 181) (by decide) (by decide)).trans rfl⟩))) ?_
  refine (stripR_ok (by omega) hT1).mono ?_
  intro r2 M2 hr2
  obtain ⟨er2, eM2⟩ := hr2
  subst er2
  refine kPopI (mi := 282) (pc := 272) (len := 1) rfl ?_
  rw [rStr_eq, rPer_eq, rIn_eq2] at eM2
  cases hb : (bStr (γ 1011 1) && (bPer (γ 1011 2) && bIn (γ 1011 3) 3)) with
  | false =>
    rw [hb] at eM1 eM2
    have e : M2 = M := eM2.trans eM1
    subst e
    exact k γ σ _ L [] _ (List.Mem.head _) (fun _ _ => rfl) aFr.rf gFr.rf aExt.rf (mkHoldX (by decide) s0 ⟨b00 s0, b1, b2, b3, b4, b5, True.intro⟩ True.intro True.intro True.intro hM)
  | true =>
    rw [hb] at eM1 eM2
    rw [Bool.and_eq_true, Bool.and_eq_true] at hb
    have g1 := bStr_true hb.1
    have g2 := bPer_true hb.2.1
    have g3 := bIn3_true hb.2.2
    have e : M2 = mPut (mPut (mPut (mPut M 5 (γ 1011 1).toInt.toNat (.int (γ 1011 2))) 6 (γ 1011 1).toInt.toNat (.int (γ 1011 3))) 183 (γ 1011 1).toInt.toNat (.int (γ 1011 2))) 184 (γ 1011 1).toInt.toNat (.int (γ 1011 3)) := by
      rw [eM2, eM1]
      rfl
    have hM2 := strip_mem (x := (γ 1011 1).toInt.toNat) (o := γ 1011 2) (l := γ 1011 3) hM (by omega) g2 g3
    rw [← e] at hM2
    have fr : aFr [(5, 0), (6, 0), (183, 0), (184, 0)] M M2 := by
      rw [e]
      exact (((aFr_put rfl).tr (aFr_put rfl)).tr (aFr_put rfl)).tr (aFr_put rfl)
    exact k γ σ _ L [] _ (List.Mem.head _) (fun _ _ => rfl) fr gFr.rf aExt.rf (mkHoldX (by decide) s0 ⟨b00 s0, b1, b2, b3, b4, b5, True.intro⟩ True.intro True.intro True.intro hM2)
theorem memP_up {m m' : List (Nat × Nat)} (h : m.all (fun q => memP q.1 q.2 m') = true) {g i : Nat} (hn : memP g i m' = false) : memP g i m = false := by
  cases hq : memP g i m with
  | false => rfl
  | true =>
    exfalso
    have : ∀ l : List (Nat × Nat), l.all (fun q => memP q.1 q.2 m') = true → memP g i l = true → False := by
      intro l
      induction l with
      | nil => intro _ h; cases h
      | cons q l ih =>
        intro ha hb
        rw [List.all_cons, Bool.and_eq_true] at ha
        have hb : (bif (Nat.beq q.1 g && Nat.beq q.2 i) then true else memP g i l) = true := hb
        cases hx : (Nat.beq q.1 g && Nat.beq q.2 i) with
        | true =>
          rw [Bool.and_eq_true] at hx
          have e1 := Nat.eq_of_beq_eq_true hx.1
          have e2 := Nat.eq_of_beq_eq_true hx.2
          have := ha.1
          rw [e1, e2, hn] at this
          cases this
        | false =>
          rw [hx] at hb
          exact ih ha.2 hb
    exact this m h hq
theorem aFr.up {m m' : List (Nat × Nat)} (h : m.all (fun q => memP q.1 q.2 m') = true) {M M' : Mem} (f : aFr m M M') : aFr m' M M' :=
  ⟨f.1, f.2.1, fun c j c1 c2 c3 c4 c5 => f.2.2.1 c j c1 c2 c3 c4 (memP_up h c5), fun c j c1 c2 c3 c4 => f.2.2.2 c j c1 c2 c3 (memP_up h c4)⟩
theorem gFr.up {m m' : List (Nat × Nat)} (h : m.all (fun q => memP q.1 q.2 m') = true) {γ γ' : Gh} (f : gFr m γ γ') : gFr m' γ γ' := fun g i hg hn => f g i hg (memP_up h hn)
theorem lcmp_same (x : Int64) : lg_cmp x x = 0 := by
  have h : ¬ x > x := fun h => by
    have := Int64.lt_iff_toInt_lt.mp h
    omega
  unfold lg_cmp
  rw [if_neg h, if_pos rfl]
theorem seenC_lo {M : Mem} {x s t w : Int32} : -2000 ≤ (seenC M x s t w).toInt := by
  unfold seenC
  cases (bDOf M x s && (bDay t && bIn w 2)) with
  | false => exact (by decide : (-2000 : Int) ≤ ((-1) : Int32).toInt)
  | true =>
    cases decide (w.toInt = 0) with
    | true => rcases b2_01 (wildC M x.toInt.toNat s t) with h | h <;> (show -2000 ≤ (b2 _).toInt; rw [h]; decide)
    | false => rcases b2_01 (findC M x.toInt.toNat s t) with h | h <;> (show -2000 ≤ (b2 _).toInt; rw [h]; decide)
/-- the tape is told to both -/
theorem feed_mem {s : List Int32} {γ : Gh} {M M1 M2 : Mem} {ws : Nat → Int32} {l : Nat} {v : Int32} (hM : aMem (s, γ) M) (hle : (l : Int) ≤ (γ 1020 0).toInt) (hl : l + 20 ≤ 200) (c1 : FC s (gUp γ 1007 0 (-1)) M ws l 20 M1) (c2 : FR_ s (gUp γ 1007 0 (-1)) M1 ws l 20 M2) (hv : v.toInt = (l : Int) + 20) : aMem (s, gUp (gUp γ 1007 0 (-1)) 1020 0 v) M2 := by
  have h9 := aMem_to9 hM
  have h8 : x8 (s, γ) := hM.1.2.1
  have hx9 : x9 γ M := h9.1.2.2
  have q := c2.1.2
  have hf : aFr fMod M M2 := c1.2.1.tr c2.2.1
  have hg : gFr fMod γ (gUp (gUp γ 1007 0 (-1)) 1020 0 v) := gFr_up rfl (gFr_up rfl gFr.rf)
  have m0 : aMem0 (s, gUp (gUp γ 1007 0 (-1)) 1020 0 v) M2 := aMem_mk h8 c2.1.1 ⟨q.1, q.2.1, q.2.2.1, q.2.2.2.1, q.2.2.2.2.1, q.2.2.2.2.2.1, q.2.2.2.2.2.2⟩
  have nn : ∀ c i, c ≠ 127 → c ≠ 128 → c ≠ 181 → c ≠ 202 → mSlot M2 c i = mSlot M c i := fun c i a b e f => (c2.2.2.2.2 c i (fun q => absurd q e) (fun q => absurd q f)).trans (c1.2.2.2.2 c i (fun q => absurd q a) (fun q => absurd q b))
  have hR := (aMem_x10 hM).1
  refine aMem_of9 (aMem_9 m0 (x9_fr hf hg rfl hx9)) ⟨⟨fun e he => (nn 8 e (by decide) (by decide) (by decide) (by decide)).trans (hR.1 e he), fun k hk => (nn 129 k (by decide) (by decide) (by decide) (by decide)).trans (hR.2.1 k hk), fun p hp => (nn 99 p (by decide) (by decide) (by decide) (by decide)).trans (hR.2.2.1 p hp), fun i hi => (nn 142 i (by decide) (by decide) (by decide) (by decide)).trans (hR.2.2.2 i hi)⟩, fun k hk => ?_, fun k hk => ?_, fun h0 k hk => by rw [pR_same (fun c i hq => nn c i (qP_ne hq).1 (qP_ne hq).2.1 (qP_ne hq).2.2.1 (qP_ne hq).2.2.2)]; exact (aMem_x10 hM).2.2.2.1 h0 k hk, xM_same (fun c i q => by unfold qM at q; exact (c2.2.2.2.2 c i (fun e => by omega) (fun e => by omega)).trans (c1.2.2.2.2 c i (fun e => by omega) (fun e => by omega))) (aMem_x10 hM).2.2.2.2.1, xK_same rfl rfl rfl (fun c i q => by unfold qN qA at q; exact (c2.2.2.2.2 c i (fun e => by omega) (fun e => by omega)).trans (c1.2.2.2.2 c i (fun e => by omega) (fun e => by omega))) (aMem_x10 hM).2.2.2.2.2⟩ (xO_same rfl (fun c i q => by unfold qR at q; exact (c2.2.2.2.2 c i (fun e => by omega) (fun e => by omega)).trans (c1.2.2.2.2 c i (fun e => by omega) (fun e => by omega))) (aMem_xO hM))
  · have a := (aMem_x10 hM).2.1 k hk
    rw [nn 5 k (by decide) (by decide) (by decide) (by decide), nn 6 k (by decide) (by decide) (by decide) (by decide), nn 183 k (by decide) (by decide) (by decide) (by decide), nn 184 k (by decide) (by decide) (by decide) (by decide)]
    exact a
  · have hk : (k : Int) < v.toInt := hk
    have e1 : mSlot M2 128 k = mSlot M1 128 k := c2.2.2.2.2 128 k (fun q => absurd q (by decide)) (fun q => absurd q (by decide))
    have e2 : mSlot M1 202 k = mSlot M 202 k := c1.2.2.2.2 202 k (fun q => absurd q (by decide)) (fun q => absurd q (by decide))
    by_cases w : k < l
    · obtain ⟨x, y, x1, y1, e⟩ := (aMem_x10 hM).2.2.1 k (show (k : Int) < (γ 1020 0).toInt by omega)
      refine ⟨x, y, ?_, ?_, e⟩
      · rw [e1, c1.2.2.2.2 128 k (fun q => absurd q (by decide)) (fun _ => Or.inl w)]
        exact x1
      · rw [c2.2.2.2.2 202 k (fun q => absurd q (by decide)) (fun _ => Or.inl w), e2]
        exact y1
    · have a := c1.2.2.2.1 (k - l) (by omega)
      have b := c2.2.2.2.1 (k - l) (by omega)
      rw [show l + (k - l) = k by omega] at a b
      exact ⟨_, _, e1.trans a, b, by_eq _ _ (by omega)⟩
theorem gs_c10 {s : List Int32} : gSound s sg_c10 := by
  intro γ d σ L st0 st M Q hd hA k
  have hst := hd.2 (by show 1 ≤ 5; decide)
  have hd := hd.1
  have hd : 5 ≤ d := hd
  have h := aHoldX_0 hA
  have e0 := eNil h
  subst e0
  subst hst
  obtain ⟨l0, el⟩ := eS h rfl
  have el : σ 1 = (s.length : Int) := el
  have l1 := eR h (i := 1) (g := 2) (c := 0) rfl rfl
  have l2 := eR h (i := 2) (g := 181) (c := 0) rfl rfl
  obtain ⟨l3, hl3, el3⟩ := eI h (i := 3) (sy := 2) (c := 0) rfl
  have b1 := eB h (i := 1) (lo := 0) (hi := 576) rfl
  have b2 := eB h (i := 2) (lo := 0) (hi := 576) rfl
  have b3 := eB h (i := 3) (lo := (-2147483648)) (hi := 2147483647) rfl
  have b4 := eB h (i := 4) (lo := (-2147483648)) (hi := 2147483647) rfl
  have b5 := eB h (i := 5) (lo := (-2147483648)) (hi := 2147483647) rfl
  have b6 := eB h (i := 6) (lo := (-2147483648)) (hi := 2147483647) rfl
  have b7 := eB h (i := 7) (lo := (-2147483648)) (hi := 2147483647) rfl
  have b8 := eB h (i := 8) (lo := 0) (hi := 200) rfl
  have b9 := eB h (i := 9) (lo := 0) (hi := 200) rfl
  have z0 := (h.1.2.1.2.2 2 1 (-9) (List.Mem.head _)).2.2
  have s0 := h.1.2.1.1
  have hM := hA.2.2.2
  have h8 : x8 (s, γ) := hM.1.2.1
  have hT := aTp_of (aMem_0 (aMem_to9 hM))
  have q10_0 : (γ 1010 0).toInt = σ 2 + 0 := eG h (g := 1010) (i := 0) (sy := 2) (c := 0) (by decide) (List.Mem.head _)
  have q11_1 : (γ 1011 1).toInt = σ 3 + 0 := eG h (g := 1011) (i := 1) (sy := 3) (c := 0) (by decide) (List.Mem.tail _ (List.Mem.head _))
  have q11_2 : (γ 1011 2).toInt = σ 4 + 0 := eG h (g := 1011) (i := 2) (sy := 4) (c := 0) (by decide) (List.Mem.tail _ (List.Mem.tail _ (List.Mem.head _)))
  have q11_3 : (γ 1011 3).toInt = σ 5 + 0 := eG h (g := 1011) (i := 3) (sy := 5) (c := 0) (by decide) (List.Mem.tail _ (List.Mem.tail _ (List.Mem.tail _ (List.Mem.head _))))
  have q11_4 : (γ 1011 4).toInt = σ 6 + 0 := eG h (g := 1011) (i := 4) (sy := 6) (c := 0) (by decide) (List.Mem.tail _ (List.Mem.tail _ (List.Mem.tail _ (List.Mem.tail _ (List.Mem.head _)))))
  have q11_5 : (γ 1011 5).toInt = σ 7 + 0 := eG h (g := 1011) (i := 5) (sy := 7) (c := 0) (by decide) (List.Mem.tail _ (List.Mem.tail _ (List.Mem.tail _ (List.Mem.tail _ (List.Mem.tail _ (List.Mem.head _))))))
  obtain ⟨f127_1, hf127_1, ef127_1⟩ := eF h (g := 127) (i := 1) (sy := 8) (c := 0) (by decide) (by decide) rfl (List.Mem.tail _ (List.Mem.tail _ (List.Mem.tail _ (List.Mem.tail _ (List.Mem.tail _ (List.Mem.tail _ (List.Mem.head _)))))))
  obtain ⟨f181_25, hf181_25, ef181_25⟩ := eF h (g := 181) (i := 25) (sy := 8) (c := 0) (by decide) (by decide) rfl (List.Mem.tail _ (List.Mem.tail _ (List.Mem.tail _ (List.Mem.tail _ (List.Mem.tail _ (List.Mem.tail _ (List.Mem.tail _ (List.Mem.head _))))))))
  have q20_0 : (γ 1020 0).toInt = σ 9 + 0 := eG h (g := 1020) (i := 0) (sy := 9) (c := 0) (by decide) (List.Mem.tail _ (List.Mem.tail _ (List.Mem.tail _ (List.Mem.tail _ (List.Mem.tail _ (List.Mem.tail _ (List.Mem.tail _ (List.Mem.tail _ (List.Mem.head _)))))))))
  have zq := (h.1.2.1.2.2 8 9 0 (List.Mem.tail _ (List.Mem.head _))).2.2
  have hX : tXI γ M := hM.2.2.2
  have h7 : (gUp γ 1007 0 (-1) 1007 0).toInt < 0 := (by decide : (-1 : Int32).toInt < 0)
  have hFM : FM s (gUp γ 1007 0 (-1)) M := ⟨hT, hX.1, hX.2.1, hX.2.2.1, hX.2.2.2.1, hX.2.2.2.2.1, fun h0 => absurd h0 m1lt, hX.2.2.2.2.2.2⟩
  refine kAload (mi := 282) (pc := 658) (len := 1) (i := 1) rfl l1 ?_
  refine kArg (pc := 659) (c := 1) (ln := 1) (ci := 1) (γ := γ) rfl rfl rfl rfl rfl rfl (by decide) (by decide) l0 hl3 hT h8 (by omega) (by omega) (by omega) (by omega) ?_
  refine kArg (pc := 664) (c := 2) (ln := 1) (ci := 2) (γ := γ) rfl rfl rfl rfl rfl rfl (by decide) (by decide) l0 hl3 hT h8 (by omega) (by omega) (by omega) (by omega) ?_
  refine kArg (pc := 669) (c := 3) (ln := 1) (ci := 3) (γ := γ) rfl rfl rfl rfl rfl rfl (by decide) (by decide) l0 hl3 hT h8 (by omega) (by omega) (by omega) (by omega) ?_
  refine kArg (pc := 674) (c := 4) (ln := 1) (ci := 4) (γ := γ) rfl rfl rfl rfl rfl rfl (by decide) (by decide) l0 hl3 hT h8 (by omega) (by omega) (by omega) (by omega) ?_
  refine kArg (pc := 679) (c := 5) (ln := 1) (ci := 5) (γ := γ) rfl rfl rfl rfl rfl rfl (by decide) (by decide) l0 hl3 hT h8 (by omega) (by omega) (by omega) (by omega) ?_
  refine Ok.call (mi := 282) (pc := 684) (j := 119) (len := 3) rfl (Or.inr (Or.inl rfl)) (by decide) (mCall_ok (n := 6) (l := 6) (rk := 1) (own := 10) (kd := 1) (as := [.ref 2, .int (γ 1011 1), .int (γ 1011 2), .int (γ 1011 3), .int (γ 1011 4), .int (γ 1011 5)]) (rest := []) (by omega) (by decide) rfl rfl rfl rfl rfl rfl (Or.inr (Or.inl ⟨rfl, (tag_of hT (a := 2) (by decide) (by decide)).trans rfl⟩))) ?_
  refine (feedC_ok (by omega) hFM hf127_1 (by omega) (by omega)).mono ?_
  intro r1 M1 hr1
  obtain ⟨y1, er1, hr1⟩ := hr1
  subst er1
  refine kPopI (mi := 282) (pc := 687) (len := 1) rfl ?_
  refine kAload (mi := 282) (len := 1) (i := 2) rfl l2 ?_
  rcases hr1 with ⟨g1, c1⟩ | ⟨g1, c1⟩
  · have hx181 : mSlot M1 181 25 = some (.int f181_25) := (c1.2.2.2.2 181 25 (fun q => absurd q (by decide)) (fun q => absurd q (by decide))).trans hf181_25
    refine kArg (pc := 689) (c := 1) (ln := 1) (ci := 1) (γ := γ) rfl rfl rfl rfl rfl rfl (by decide) (by decide) l0 hl3 c1.1.1 h8 (by omega) (by omega) (by omega) (by omega) ?_
    refine kArg (pc := 694) (c := 2) (ln := 1) (ci := 2) (γ := γ) rfl rfl rfl rfl rfl rfl (by decide) (by decide) l0 hl3 c1.1.1 h8 (by omega) (by omega) (by omega) (by omega) ?_
    refine kArg (pc := 699) (c := 3) (ln := 1) (ci := 3) (γ := γ) rfl rfl rfl rfl rfl rfl (by decide) (by decide) l0 hl3 c1.1.1 h8 (by omega) (by omega) (by omega) (by omega) ?_
    refine kArg (pc := 704) (c := 4) (ln := 1) (ci := 4) (γ := γ) rfl rfl rfl rfl rfl rfl (by decide) (by decide) l0 hl3 c1.1.1 h8 (by omega) (by omega) (by omega) (by omega) ?_
    refine kArg (pc := 709) (c := 5) (ln := 1) (ci := 5) (γ := γ) rfl rfl rfl rfl rfl rfl (by decide) (by decide) l0 hl3 c1.1.1 h8 (by omega) (by omega) (by omega) (by omega) ?_
    refine Ok.call (mi := 282) (pc := 714) (j := 191) (len := 3) rfl (Or.inr (Or.inl rfl)) (by decide) (mCall_ok (n := 6) (l := 6) (rk := 1) (own := 11) (kd := 1) (as := [.ref 181, .int (γ 1011 1), .int (γ 1011 2), .int (γ 1011 3), .int (γ 1011 4), .int (γ 1011 5)]) (rest := []) (by omega) (by decide) rfl rfl rfl rfl rfl rfl (Or.inr (Or.inl ⟨rfl, (tag_of c1.1.1 (a := 181) (by decide) (by decide)).trans rfl⟩))) ?_
    refine (feedR_ok h7 (by omega) c1.1 hx181 (by omega) (by omega)).mono ?_
    intro r2 M2 hr2
    obtain ⟨y2, er2, hr2⟩ := hr2
    subst er2
    refine kPopI (mi := 282) (pc := 717) (len := 1) rfl ?_
    rcases hr2 with ⟨g2, c2⟩ | ⟨g2, c2⟩
    · have el9 : f181_25.toInt.toNat = f127_1.toInt.toNat := by omega
      rw [el9] at c2
      obtain ⟨v, ev⟩ : ∃ v : Int32, v.toInt = (f127_1.toInt.toNat : Int) + 20 := ⟨Int32.ofInt ((f127_1.toInt.toNat : Int) + 20), i32_ofInt (by omega) (by omega)⟩
      have hM2 := feed_mem (v := v) hM (by omega) (by omega) c1 c2 ev
      obtain ⟨x1, hx1, ex1⟩ := c1.2.2.1
      obtain ⟨x2, hx2, ex2⟩ := c2.2.2.1
      have hx3 : mSlot M2 127 1 = some (.int x1) := (c2.2.2.2.2 127 1 (fun q => absurd q (by decide)) (fun q => absurd q (by decide))).trans hx1
      have vb : 0 ≤ v.toInt ∧ v.toInt ≤ 200 := by omega
      refine k (gUp (gUp γ 1007 0 (-1)) 1020 0 v) (aUp (aUp σ 10 v.toInt) 11 v.toInt) _ L [] M2 (List.Mem.head _) (fun _ _ => rfl) (aFr.up (m := fMod) (by decide) (c1.2.1.tr c2.2.1)) (gFr.up (m := fMod) (by decide) (gFr_up rfl (gFr_up rfl gFr.rf))) (aExt.tr aUp_ext aUp_ext (by decide)) ?_
      exact mkHoldX (by decide) s0 ⟨b00 s0, b1, b2, b3, b4, b5, b6, b7, b8, b9, vb, vb, True.intro⟩ ⟨⟨by decide, by decide, by show v.toInt - v.toInt ≤ 0; omega⟩, True.intro⟩ ⟨hF1_re rfl (by decide) (by decide) hx3 (by show x1.toInt = v.toInt + 0; omega), hF1_re rfl (by decide) (by decide) hx2 (by show x2.toInt = v.toInt + 0; omega), hF1_gh (by decide) (by decide) (by show v.toInt = v.toInt + 0; omega), True.intro⟩ True.intro hM2
    · exfalso
      omega
  · subst c1
    refine kArg (pc := 689) (c := 1) (ln := 1) (ci := 1) (γ := γ) rfl rfl rfl rfl rfl rfl (by decide) (by decide) l0 hl3 hT h8 (by omega) (by omega) (by omega) (by omega) ?_
    refine kArg (pc := 694) (c := 2) (ln := 1) (ci := 2) (γ := γ) rfl rfl rfl rfl rfl rfl (by decide) (by decide) l0 hl3 hT h8 (by omega) (by omega) (by omega) (by omega) ?_
    refine kArg (pc := 699) (c := 3) (ln := 1) (ci := 3) (γ := γ) rfl rfl rfl rfl rfl rfl (by decide) (by decide) l0 hl3 hT h8 (by omega) (by omega) (by omega) (by omega) ?_
    refine kArg (pc := 704) (c := 4) (ln := 1) (ci := 4) (γ := γ) rfl rfl rfl rfl rfl rfl (by decide) (by decide) l0 hl3 hT h8 (by omega) (by omega) (by omega) (by omega) ?_
    refine kArg (pc := 709) (c := 5) (ln := 1) (ci := 5) (γ := γ) rfl rfl rfl rfl rfl rfl (by decide) (by decide) l0 hl3 hT h8 (by omega) (by omega) (by omega) (by omega) ?_
    refine Ok.call (mi := 282) (pc := 714) (j := 191) (len := 3) rfl (Or.inr (Or.inl rfl)) (by decide) (mCall_ok (n := 6) (l := 6) (rk := 1) (own := 11) (kd := 1) (as := [.ref 181, .int (γ 1011 1), .int (γ 1011 2), .int (γ 1011 3), .int (γ 1011 4), .int (γ 1011 5)]) (rest := []) (by omega) (by decide) rfl rfl rfl rfl rfl rfl (Or.inr (Or.inl ⟨rfl, (tag_of hT (a := 181) (by decide) (by decide)).trans rfl⟩))) ?_
    refine (feedR_ok h7 (by omega) hFM hf181_25 (by omega) (by omega)).mono ?_
    intro r2 M2 hr2
    obtain ⟨y2, er2, hr2⟩ := hr2
    subst er2
    refine kPopI (mi := 282) (pc := 717) (len := 1) rfl ?_
    rcases hr2 with ⟨g2, c2⟩ | ⟨g2, c2⟩
    · exfalso
      omega
    · subst c2
      refine k γ (aUp (aUp σ 10 f127_1.toInt) 11 (γ 1020 0).toInt) _ L [] _ (List.Mem.head _) (fun _ _ => rfl) aFr.rf gFr.rf (aExt.tr aUp_ext aUp_ext (by decide)) ?_
      exact mkHoldX (by decide) s0 ⟨b00 s0, b1, b2, b3, b4, b5, b6, b7, b8, b9, (by show 0 ≤ f127_1.toInt ∧ f127_1.toInt ≤ 200; omega), (by show 0 ≤ (γ 1020 0).toInt ∧ (γ 1020 0).toInt ≤ 200; omega), True.intro⟩ ⟨⟨by decide, by decide, by show f127_1.toInt - (γ 1020 0).toInt ≤ 0; omega⟩, True.intro⟩ ⟨hF1_re rfl (by decide) (by decide) hf127_1 (by show f127_1.toInt = f127_1.toInt + 0; omega), hF1_re rfl (by decide) (by decide) hf181_25 (by show f181_25.toInt = f127_1.toInt + 0; omega), hF1_gh (by decide) (by decide) (by show (γ 1020 0).toInt = (γ 1020 0).toInt + 0; omega), True.intro⟩ True.intro hM
theorem seenR_cl {M N : Mem} {n : Nat} {x s t w : Int32} (hS : Sh N) (hA : AL M N n) (hp : pvC M) {n' d : Nat} {r : Option Value} {M1 : Mem} (h : En n' d 218 0 (lv_args 0 [.ref 181, .int x, .int s, .int t, .int w]) [] N r M1) : r = some (.int (seenC M x s t w)) ∧ M1 = N := by
  have q := seenR_en hS h
  rw [seen_eq hA hp] at q
  exact q
theorem unsR_cl {M N : Mem} {n : Nat} {s t w : Int32} (hS : Sh N) (hA : AL M N n) (hp : pvC M) {n' d : Nat} {r : Option Value} {M1 : Mem} (h : En n' d 241 0 (lv_args 0 [.ref 181, .int s, .int t, .int w]) [] N r M1) : r = some (.long (unsC M s t w)) ∧ M1 = N := by
  have q := unsR_en hS (by have := hA.2.2.1; have := hA.1; omega) h
  rw [uns_eq hA hp] at q
  exact q
theorem gs_c11 {s : List Int32} : gSound s sg_c11 := by
  intro γ d σ L st0 st M Q hd hA k
  have hst := hd.2 (by show 1 ≤ 40; decide)
  have hd := hd.1
  have hd : 40 ≤ d := hd
  have h := aHoldX_0 hA
  have e0 := eNil h
  subst e0
  subst hst
  obtain ⟨l0, el⟩ := eS h rfl
  have el : σ 1 = (s.length : Int) := el
  have l1 := eR h (i := 1) (g := 2) (c := 0) rfl rfl
  have l2 := eR h (i := 2) (g := 181) (c := 0) rfl rfl
  obtain ⟨l3, hl3, el3⟩ := eI h (i := 3) (sy := 2) (c := 0) rfl
  have b1 := eB h (i := 1) (lo := 0) (hi := 576) rfl
  have b2 := eB h (i := 2) (lo := 0) (hi := 576) rfl
  have b3 := eB h (i := 3) (lo := (-2147483648)) (hi := 2147483647) rfl
  have b4 := eB h (i := 4) (lo := (-2147483648)) (hi := 2147483647) rfl
  have b5 := eB h (i := 5) (lo := 0) (hi := 200) rfl
  have b6 := eB h (i := 6) (lo := 0) (hi := 200) rfl
  have z0 := (h.1.2.1.2.2 2 1 (-9) (List.Mem.head _)).2.2
  have s0 := h.1.2.1.1
  have hM := hA.2.2.2
  have h8 : x8 (s, γ) := hM.1.2.1
  have hT := aTp_of (aMem_0 (aMem_to9 hM))
  have q10_0 : (γ 1010 0).toInt = σ 2 + 0 := eG h (g := 1010) (i := 0) (sy := 2) (c := 0) (by decide) (List.Mem.head _)
  have q11_1 : (γ 1011 1).toInt = σ 3 + 0 := eG h (g := 1011) (i := 1) (sy := 3) (c := 0) (by decide) (List.Mem.tail _ (List.Mem.head _))
  have q11_2 : (γ 1011 2).toInt = σ 4 + 0 := eG h (g := 1011) (i := 2) (sy := 4) (c := 0) (by decide) (List.Mem.tail _ (List.Mem.tail _ (List.Mem.head _)))
  obtain ⟨f127_1, hf127_1, ef127_1⟩ := eF h (g := 127) (i := 1) (sy := 5) (c := 0) (by decide) (by decide) rfl (List.Mem.tail _ (List.Mem.tail _ (List.Mem.tail _ (List.Mem.head _))))
  obtain ⟨f181_25, hf181_25, ef181_25⟩ := eF h (g := 181) (i := 25) (sy := 5) (c := 0) (by decide) (by decide) rfl (List.Mem.tail _ (List.Mem.tail _ (List.Mem.tail _ (List.Mem.tail _ (List.Mem.head _)))))
  have q20_0 : (γ 1020 0).toInt = σ 6 + 0 := eG h (g := 1020) (i := 0) (sy := 6) (c := 0) (by decide) (List.Mem.tail _ (List.Mem.tail _ (List.Mem.tail _ (List.Mem.tail _ (List.Mem.tail _ (List.Mem.head _))))))
  have q21_0 : (γ 1021 0).toInt = σ 0 + 0 := eG h (g := 1021) (i := 0) (sy := 0) (c := 0) (by decide) (List.Mem.tail _ (List.Mem.tail _ (List.Mem.tail _ (List.Mem.tail _ (List.Mem.tail _ (List.Mem.tail _ (List.Mem.head _)))))))
  have zq := (h.1.2.1.2.2 5 6 0 (List.Mem.tail _ (List.Mem.head _))).2.2
  have hS := Sh.of hT
  have hR := (aMem_x10 hM).1
  have i127 : iv M 127 1 = f127_1 := iv_of hf127_1
  have hb : ∀ k : Nat, (k : Int) < f127_1.toInt → iv M 128 k = iv M 202 k &&& (255 : Int32) := fun k hk => by
    obtain ⟨x, y, x1, y1, e⟩ := (aMem_x10 hM).2.2.1 k (show (k : Int) < (γ 1020 0).toInt by omega)
    rw [iv_of x1, iv_of y1]
    exact e
  have hTX : (1 ≤ (γ 1011 2).toInt ∧ (γ 1011 2).toInt ≤ 160) ∧ (γ 1011 2).toInt ≤ (iv M 127 1).toInt → TX M (txt M (γ 1011 2).toInt) (γ 1011 2).toInt := fun q => txt_TX (by omega) (by omega) (fun k hk => hb k (by have q2 := q.2; rw [i127] at q2; omega))
  have hxP : ∀ k, k < 3 → xPk (pR M) k := (aMem_x10 hM).2.2.2.1 (show (γ 1021 0).toInt = 0 by omega)
  obtain ⟨γf, eγ⟩ : ∃ γf, γf = gUp γ 1021 0 1 := ⟨_, rfl⟩
  have hMf : aMem (s, γf) M := by rw [eγ]; exact flg_set hM (xP_flg (by decide : (1 : Int32).toInt = 1))
  have gf0 : gFr [(1021, 0)] γ γf := by rw [eγ]; exact gFr_up rfl gFr.rf
  have ef0 : γf 1021 0 = 1 := by rw [eγ]; rfl
  refine kAload (mi := 282) (pc := 721) (len := 1) (i := 1) rfl l1 ?_
  refine kArg (pc := 722) (c := 1) (ln := 1) (ci := 1) (γ := γ) rfl rfl rfl rfl rfl rfl (by decide) (by decide) l0 hl3 hT h8 (by omega) (by omega) (by omega) (by omega) ?_
  refine kArg (pc := 727) (c := 2) (ln := 1) (ci := 2) (γ := γ) rfl rfl rfl rfl rfl rfl (by decide) (by decide) l0 hl3 hT h8 (by omega) (by omega) (by omega) (by omega) ?_
  have hold2 : aHold (s, γf) (fun i => if i = 1 then (γ 1011 1).toInt else if i = 2 then (γ 1011 2).toInt else if i = 3 then (1 : Int32).toInt else 0) ct_54.2.2.2.1 (lv_args 0 [.ref 2, .int (γ 1011 1), .int (γ 1011 2)]) [] M := by
    have q := mkHoldX (scr := (s, γf)) (σ := (fun i => if i = 1 then (γ 1011 1).toInt else if i = 2 then (γ 1011 2).toInt else if i = 3 then (1 : Int32).toInt else 0)) (B := ct_54.2.2.2.1.1.1) (Z := []) (F := [(1021, 0, (1, 3, .ofNat 0))]) (T := []) (st := []) (M := M) (by decide) rfl ⟨b00 rfl, ⟨(i32_rng (γ 1011 1)).1, (i32_rng (γ 1011 1)).2⟩, ⟨(i32_rng (γ 1011 2)).1, (i32_rng (γ 1011 2)).2⟩, (show (1 : Int) ≤ (1 : Int32).toInt ∧ (1 : Int32).toInt ≤ (1 : Int) by decide), True.intro⟩ True.intro ⟨hF1_gh (by decide) (by decide) (by show (γf 1021 0).toInt = (1 : Int32).toInt + 0; rw [ef0]; rfl), True.intro⟩ True.intro hMf
    refine ⟨q.1, ?_, True.intro, hMf⟩
    intro i v e
    match i, e with
    | 0, e => cases e; exact Or.inr ⟨.ref 2, rfl, 2, rfl, by decide, by decide, rfl, fun hc => absurd hc (by decide)⟩
    | 1, e => cases e; exact Or.inr ⟨.int (γ 1011 1), rfl, by decide, γ 1011 1, rfl, (Int.add_zero _).symm⟩
    | 2, e => cases e; exact Or.inr ⟨.int (γ 1011 2), rfl, by decide, γ 1011 2, rfl, (Int.add_zero _).symm⟩
    | 3, e => cases e; exact Or.inl rfl
    | i + 4, e => cases e
  refine kCallC (c := ct_54) (R := fun r' M' => LCR (txt M (γ 1011 2).toInt) (fun k => (iv M 203 k).toInt) (fun k => (iv M 204 k).toInt) (γ 1011 1) (γ 1011 2) M r' M') (cs_54 (cLiftK rfl (cLiftF rfl cs_lc0)) (cLiftK rfl (cLiftF rfl cs_lc1)) (cLiftK rfl (cLiftF rfl cs_lc2))) rfl rfl (mi := 282) (pc := 732) (len := 3) (j := 120) rfl (Or.inr (Or.inl rfl)) (by decide) (mCall_ok (n := 3) (l := 4) (rk := 1) (own := 10) (kd := 1) (as := [.ref 2, .int (γ 1011 1), .int (γ 1011 2)]) (rest := []) (by omega) (by decide) rfl rfl rfl rfl rfl rfl (Or.inr (Or.inl ⟨rfl, (tag_of hT (a := 2) (by decide) (by decide)).trans rfl⟩))) (by show 36 ≤ d - 1; omega) hold2 (fun _ _ _ _ g => lawC_en (f := fun k => (iv M 203 k).toInt) (g := fun k => (iv M 204 k).toInt) hS hR.2.1 (LF_of hS) hTX g) ?_
  intro r1 M1 γ1 hr1 fr1 gf1 hM1
  obtain ⟨⟨x1, er1⟩, nf1, nl1⟩ := hr1.use
  subst er1
  have hT1 : aTp s M1 := aTp_of (aMem_0 (aMem_to9 hM1))
  have hS1 := Sh.of hT1
  have hy1 : mSlot M1 181 25 = some (.int f181_25) := (nf1 181 25 (by decide)).trans hf181_25
  have i181 : iv M1 181 25 = f181_25 := iv_of hy1
  have ef1 : γ1 1021 0 = 1 := (gf1 1021 0 (by decide) rfl).trans ef0
  refine kPopI (mi := 282) (pc := 735) (len := 1) rfl ?_
  refine kAload (mi := 282) (pc := 736) (len := 1) (i := 2) rfl l2 ?_
  refine kArg (pc := 737) (c := 1) (ln := 1) (ci := 1) (γ := γ) rfl rfl rfl rfl rfl rfl (by decide) (by decide) l0 hl3 hT1 h8 (by omega) (by omega) (by omega) (by omega) ?_
  refine kArg (pc := 742) (c := 2) (ln := 1) (ci := 2) (γ := γ) rfl rfl rfl rfl rfl rfl (by decide) (by decide) l0 hl3 hT1 h8 (by omega) (by omega) (by omega) (by omega) ?_
  have hRX : (1 ≤ (γ 1011 2).toInt ∧ (γ 1011 2).toInt ≤ 160) ∧ (γ 1011 2).toInt ≤ (iv M1 181 25).toInt → RTX M1 (txt M (γ 1011 2).toInt) (fun k => (iv M 203 k).toInt) (fun k => (iv M 204 k).toInt) (γ 1011 2).toInt := fun q => txt_RTX (fun k hk => hb k (by have q2 := q.2; rw [i181] at q2; omega)) nf1
  have hold181 : aHold (s, γ1) (fun i => if i = 1 then (γ 1011 1).toInt else if i = 2 then (γ 1011 2).toInt else if i = 3 then f181_25.toInt else if i = 4 then (1 : Int32).toInt else 0) ct_140.2.2.2.1 (lv_args 0 [.ref 181, .int (γ 1011 1), .int (γ 1011 2)]) [] M1 := by
    have q := mkHoldX (scr := (s, γ1)) (σ := (fun i => if i = 1 then (γ 1011 1).toInt else if i = 2 then (γ 1011 2).toInt else if i = 3 then f181_25.toInt else if i = 4 then (1 : Int32).toInt else 0)) (B := ct_140.2.2.2.1.1.1) (Z := []) (F := [(181, 25, (1, 3, .ofNat 0)), (1021, 0, (1, 4, .ofNat 0))]) (T := []) (st := []) (M := M1) (by decide) rfl ⟨b00 rfl, ⟨(i32_rng (γ 1011 1)).1, (i32_rng (γ 1011 1)).2⟩, ⟨(i32_rng (γ 1011 2)).1, (i32_rng (γ 1011 2)).2⟩, (by show 0 ≤ f181_25.toInt ∧ f181_25.toInt ≤ 200; omega), (show (1 : Int) ≤ (1 : Int32).toInt ∧ (1 : Int32).toInt ≤ (1 : Int) by decide), True.intro⟩ True.intro ⟨hF1_re rfl (by decide) (by decide) hy1 (Int.add_zero _).symm, hF1_gh (by decide) (by decide) (by show (γ1 1021 0).toInt = (1 : Int32).toInt + 0; rw [ef1]; rfl), True.intro⟩ True.intro hM1
    refine ⟨q.1, ?_, True.intro, hM1⟩
    intro i v e
    match i, e with
    | 0, e => cases e; exact Or.inr ⟨.ref 181, rfl, 181, rfl, by decide, by decide, rfl, fun hc => absurd hc (by decide)⟩
    | 1, e => cases e; exact Or.inr ⟨.int (γ 1011 1), rfl, by decide, γ 1011 1, rfl, (Int.add_zero _).symm⟩
    | 2, e => cases e; exact Or.inr ⟨.int (γ 1011 2), rfl, by decide, γ 1011 2, rfl, (Int.add_zero _).symm⟩
    | 3, e => cases e; exact Or.inl rfl
    | 4, e => cases e; exact Or.inl rfl
    | i + 5, e => cases e
  refine kCallC (c := ct_140) (R := fun r' M' => LRR (txt M (γ 1011 2).toInt) (fun k => (iv M 203 k).toInt) (fun k => (iv M 204 k).toInt) (γ 1011 1) (γ 1011 2) M1 r' M') (cs_140 (cLiftK rfl (cLift9 rfl (cLift rfl cs_hos))) (cLiftK rfl (cLift9 rfl (cLift rfl cs_notes0))) (cLiftK rfl (cLift9 rfl (cLift rfl cs_notes1))) (cLiftK rfl (cLift9 rfl (cLift rfl cs_notes2))) (cLiftK rfl (cLift9 rfl (cLift rfl cs_notes3))) (cLiftK rfl (cLift9 rfl (cLift rfl cs_notes4))) (cLiftK rfl (cLift9 rfl (cLift rfl cs_top))) (gLiftK rfl (gLiftF rfl (gLift rfl gs_lw2))) (gLiftK rfl (gLift9 rfl (gLift rfl gs_csp))) (gLiftK rfl (gLift9 rfl (gLift rfl gs_ep))) (gLiftK rfl (gLift9 rfl (gLift rfl gs_hr1))) (gLiftK rfl (gLift9 rfl (gLift rfl gs_hr2))) (gLiftK rfl (gLift9 rfl (gLift rfl gs_jp))) (gLiftK rfl (gLift9 rfl (gLift rfl gs_ld))) (gLiftK rfl (gLift9 rfl (gLift rfl gs_lw1))) (gLiftK rfl (gLift9 rfl (gLift rfl gs_op10))) (gLiftK rfl (gLift9 rfl (gLift rfl gs_op13))) (gLiftK rfl (gLift9 rfl (gLift rfl gs_op14))) (gLiftK rfl (gLift9 rfl (gLift rfl gs_rc1))) (gLiftK rfl (gLift9 rfl (gLift rfl gs_rc3n))) (gLiftK rfl (gLift9 rfl (gLift rfl gs_rc3y))) (gLiftK rfl (gLift9 rfl (gLift rfl gs_rc4))) (gLiftK rfl (gLift9 rfl (gLift rfl gs_rcp))) (gLiftK rfl (gLift9 rfl (gLift rfl gs_rcp2))) (gLiftK rfl (gLift9 rfl (gLift rfl gs_rcr))) (gLiftK rfl (gLift9 rfl (gLift rfl gs_rso))) (gLiftK rfl (gLift9 rfl (gLift rfl gs_rsp)))) rfl rfl (mi := 282) (pc := 747) (len := 3) (j := 212) rfl (Or.inr (Or.inl rfl)) (by decide) (mCall_ok (n := 3) (l := 5) (rk := 1) (own := 11) (kd := 1) (as := [.ref 181, .int (γ 1011 1), .int (γ 1011 2)]) (rest := []) (by omega) (by decide) rfl rfl rfl rfl rfl rfl (Or.inr (Or.inl ⟨rfl, (tag_of hT1 (a := 181) (by decide) (by decide)).trans rfl⟩))) (by show 8 ≤ d - 1; omega) hold181 (fun _ _ _ _ g => lawR_en hS1 hRX g) ?_
  intro r2 M2 γ2 hr2 fr2 gf2 hM2
  obtain ⟨⟨x2, er2⟩, nf2, nl2⟩ := hr2.use
  subst er2
  obtain ⟨ex, ep⟩ := law_same hr1 hr2 (by rw [i127, i181]; omega)
  have hp2 := law_prog hr1 hr2 (by rw [i127, i181]; omega) hxP
  have hM3 : aMem (s, gUp γ2 1021 0 0) M2 := flg_set hM2 (fun _ => hp2)
  subst ex
  have hS2 := Sh.of (aTp_of (aMem_0 (aMem_to9 hM2)))
  have k127 : mSlot M2 127 1 = some (.int (iv M2 127 1)) := hS2.slI (by decide) (by decide) (by decide) rfl
  have k181 : mSlot M2 181 25 = some (.int (iv M2 181 25)) := hS2.slI (by decide) (by decide) (by decide) rfl
  have j127 : iv M2 127 1 = iv M1 127 1 := iv_sl (nf2 127 1 (by decide))
  have ep2 : (iv M2 127 1).toInt = (iv M2 181 25).toInt := by rw [j127]; exact ep
  have rg : 0 ≤ (iv M2 127 1).toInt ∧ (iv M2 127 1).toInt ≤ f127_1.toInt := by
    rw [j127]
    rcases nl1 with q | q
    · omega
    · rw [q, i127]
      omega
  refine kPopI (mi := 282) (pc := 750) (len := 1) rfl ?_
  refine k (gUp γ2 1021 0 0) (aUp σ 7 (iv M2 127 1).toInt) _ L [] M2 (List.Mem.head _) (fun _ _ => rfl) ((aFr.up (m := ct_54.2.2.2.2.2) (by decide) fr1).tr (aFr.up (m := ct_140.2.2.2.2.2) (by decide) fr2)) ((((gFr.up (m := [(1021, 0)]) (by decide) gf0).tr (gFr.up (m := ct_54.2.2.2.2.2) (by decide) gf1)).tr (gFr.up (m := ct_140.2.2.2.2.2) (by decide) gf2)).tr (gFr_up rfl gFr.rf)) aUp_ext ?_
  exact mkHoldX (by decide) s0 ⟨b00 s0, b1, b2, b3, b4, b5, b6, (by show 0 ≤ (iv M2 127 1).toInt ∧ (iv M2 127 1).toInt ≤ 200; omega), True.intro⟩ ⟨⟨by decide, by decide, by show (iv M2 127 1).toInt - σ 6 ≤ 0; omega⟩, True.intro⟩ ⟨hF1_re rfl (by decide) (by decide) k127 (by show (iv M2 127 1).toInt = (iv M2 127 1).toInt + 0; omega), hF1_re rfl (by decide) (by decide) k181 (by show (iv M2 181 25).toInt = (iv M2 127 1).toInt + 0; omega), hF1_gh (by decide) (by decide) (by show (0 : Int) = σ 0 + 0; omega), True.intro⟩ True.intro hM3
def mq (s : List Int32) (γ : Gh) (M : Mem) : Prop := aMem9 (s, γ) M ∧ Rf M ∧ xS M ∧ xT γ M ∧ xP γ M ∧ xK γ M ∧ xO γ M
section
variable {s : List Int32} {γ : Gh} {M : Mem}
theorem mq_of (h : aMem (s, γ) M) : mq s γ M := ⟨aMem_to9 h, (aMem_x10 h).1, (aMem_x10 h).2.1, (aMem_x10 h).2.2.1, (aMem_x10 h).2.2.2.1, (aMem_x10 h).2.2.2.2.2, aMem_xO h⟩
theorem mq_mem (h : mq s γ M) (hx : xM M) : aMem (s, γ) M := aMem_of9 h.1 ⟨h.2.1, h.2.2.1, h.2.2.2.1, h.2.2.2.2.1, hx, h.2.2.2.2.2.1⟩ h.2.2.2.2.2.2
theorem mq_tp (h : mq s γ M) : aTp s M := aTp_of (aMem_0 h.1)
theorem mq_put (h : mq s γ M) {a i : Nat} {v : Value} (hq : qM a i) (ty : aTy (tTy (tGrp a) i) v) : mq s γ (mPut M a i v) := by
  obtain ⟨p0, p9, pq, ⟨p2, p3⟩, n8, n129, n99, n142, n51, n5, n6, n183, n184, n128, n202⟩ := qM_np hq
  have hx9 : x9 γ M := h.1.1.2.2
  refine ⟨fin9 h.1 ((mq_tp h).put p2 p3 ty) (fun _ _ _ => rfl) (xv_put0 p0) ⟨yT_put n8 n51 hx9.1, ?_⟩, Rf_put ⟨n8, n129, n99, n142⟩ h.2.1, ?_, ?_, ?_, ?_, ?_⟩
  · rw [yV_np9 p9]
    exact hx9.2
  · intro q hq
    rw [mSlot_put_ne (Or.inl (Ne.symm n5)), mSlot_put_ne (Or.inl (Ne.symm n183)), mSlot_put_ne (Or.inl (Ne.symm n6)), mSlot_put_ne (Or.inl (Ne.symm n184))]
    exact h.2.2.1 q hq
  · intro k hk
    rw [mSlot_put_ne (Or.inl (Ne.symm n128)), mSlot_put_ne (Or.inl (Ne.symm n202))]
    exact h.2.2.2.1 k hk
  · intro h0 k hk
    rw [pR_put pq]
    exact h.2.2.2.2.1 h0 k hk
  · exact xK_same rfl rfl rfl (fun c j q => mSlot_put_ne (Or.inl (fun e => by unfold qM at hq; unfold qN qA at q; omega))) h.2.2.2.2.2.1
  · exact xO_same rfl (fun c j q => mSlot_put_ne (Or.inl (fun e => by unfold qM at hq; unfold qR at q; omega))) h.2.2.2.2.2.2
theorem xM_buyer {M N : Mem} {x : Nat} {t p u b : Int32} (hx : xM M) (p0 : p ≠ 0) (a1 : ∀ k, iv N 139 k = if k = x then t else iv M 139 k) (a2 : ∀ k, iv N 140 k = if k = x then p else iv M 140 k) (a3 : ∀ k, iv N 141 k = if k = x then u else iv M 141 k) (b1 : ∀ k, iv N 223 k = if k = x then t else iv M 223 k) (b2 : ∀ k, iv N 224 k = if k = x then p else iv M 224 k) (b3 : ∀ k, iv N 225 k = if k = x then u else iv M 225 k) (c1 : ∀ i j, i < 8 → iv N (143 + i) j = iv M (143 + i) j) (c2 : ∀ j, iv N 226 j = iv M 226 j) (d : iv N 181 59 = b) (d0 : 0 ≤ b.toInt ∧ b.toInt < 256) (d1 : ∀ k, k < 8 → tb b.toInt.toNat k = (tb (iv M 181 59).toInt.toNat k || decide (k = x))) : xM N := by
  refine ⟨fun i hi => ?_, by rw [d]; exact d0, fun i hi => ?_⟩
  · obtain ⟨e1, e2, e3, e4⟩ := hx.1 i hi
    rw [b1, a1, b2, a2, b3, a3, e1, e2, e3]
    exact ⟨rfl, rfl, rfl, fun j hj => by rw [c2, c1 i j hi]; exact e4 j hj⟩
  · have q2 : tb (iv M 181 59).toInt.toNat i = decide (iv M 140 i ≠ 0) := hx.2.2 i hi
    show tb (iv N 181 59).toInt.toNat i = _
    rw [d, d1 i hi, q2, a2]
    by_cases c : i = x
    · rw [if_pos c, decide_eq_true c, Bool.or_true, decide_eq_true p0]
    · rw [if_neg c, decide_eq_false c, Bool.or_false]
theorem xM_hears {M N : Mem} {x t : Nat} {u : Int32} (hx : xM M) (t8 : t < 8) (a : ∀ c k, c < 143 ∨ (150 < c ∧ c ≠ 226) → iv N c k = iv M c k) (b : ∀ i j, i < 8 → iv N (143 + i) j = if i = x ∧ j = t then u else iv M (143 + i) j) (c : ∀ j, iv N 226 j = if j = 8 * x + t then u - 100 else iv M 226 j) (hu : (u - 100).toInt = u.toInt - 100) : xM N := by
  refine ⟨fun i hi => ?_, by rw [a 181 59 (by omega)]; exact hx.2.1, fun i hi => by rw [a 181 59 (by omega), a 140 i (by omega)]; exact hx.2.2 i hi⟩
  obtain ⟨e1, e2, e3, e4⟩ := hx.1 i hi
  refine ⟨by rw [a 223 i (by omega), a 139 i (by omega)]; exact e1, by rw [a 224 i (by omega), a 140 i (by omega)]; exact e2, by rw [a 225 i (by omega), a 141 i (by omega)]; exact e3, fun j hj => ?_⟩
  rw [b i j hi, c]
  by_cases q : i = x ∧ j = t
  · rw [if_pos q, if_pos (by omega)]
    exact hu
  · rw [if_neg q, if_neg (by omega)]
    exact e4 j hj
end
theorem buy_true {x t p u : Int32} (h : (bIn x 8 && (bDay t && (!decide (p.toInt < 1) && (decide (p.toInt < 10000) && bIn u 100)))) = true) : (0 ≤ x.toInt ∧ x.toInt < 8) ∧ (0 ≤ t.toInt ∧ t.toInt < 1000) ∧ (1 ≤ p.toInt ∧ p.toInt < 10000) ∧ (0 ≤ u.toInt ∧ u.toInt < 100) := by
  rw [Bool.and_eq_true, Bool.and_eq_true, Bool.and_eq_true, Bool.and_eq_true] at h
  have h3 := of_decide_eq_true h.2.2.2.1
  have h4 : ¬ p.toInt < 1 := fun q => by
    have := h.2.2.1
    rw [decide_eq_true q] at this
    cases this
  exact ⟨bIn8_true h.1, bDay_true h.2.1, by omega, bIn100_true h.2.2.2.2⟩
theorem hear_true {x t u : Int32} (h : (bIn x 8 && (bIn t 8 && (!decide (x.toInt = t.toInt) && bIn u 101))) = true) : (0 ≤ x.toInt ∧ x.toInt < 8) ∧ (0 ≤ t.toInt ∧ t.toInt < 8) ∧ (0 ≤ u.toInt ∧ u.toInt < 101) := by
  rw [Bool.and_eq_true, Bool.and_eq_true, Bool.and_eq_true] at h
  exact ⟨bIn8_true h.1, bIn8_true h.2.1, bIn101_true h.2.2.2⟩
theorem buyG_eq (x t p u : Int32) : (rIn x 0 7 && (rDay t && (rIn p 1 9999 && rIn u 0 99))) = (bIn x 8 && (bDay t && (!decide (p.toInt < 1) && (decide (p.toInt < 10000) && bIn u 100)))) := by rw [rIn8, rDay_eq, rInP, rIn100, Bool.and_assoc]
theorem hearG_eq (x t u : Int32) : (rIn x 0 7 && (rIn t 0 7 && (!decide (x.toInt = t.toInt) && rIn u 0 100))) = (bIn x 8 && (bIn t 8 && (!decide (x.toInt = t.toInt) && bIn u 101))) := by rw [rIn8, rIn8, rIn101]
theorem buyer_mem {s : List Int32} {γ : Gh} {M : Mem} {x t p u : Int32} (h : aMem (s, γ) M) (hx : 0 ≤ x.toInt ∧ x.toInt < 8) (ht : 0 ≤ t.toInt ∧ t.toInt < 1000) (hp : 1 ≤ p.toInt ∧ p.toInt < 10000) (hu : 0 ≤ u.toInt ∧ u.toInt < 100) : mq s γ (mPut (mPut (mPut M 139 x.toInt.toNat (.int t)) 140 x.toInt.toNat (.int p)) 141 x.toInt.toNat (.int u)) ∧ aMem (s, γ) (mPut (mPut (mPut (mPut (mPut (mPut (mPut M 139 x.toInt.toNat (.int t)) 140 x.toInt.toNat (.int p)) 141 x.toInt.toNat (.int u)) 223 x.toInt.toNat (.int t)) 224 x.toInt.toNat (.int p)) 225 x.toInt.toNat (.int u)) 181 59 (.int ((iv (mPut (mPut (mPut (mPut (mPut (mPut M 139 x.toInt.toNat (.int t)) 140 x.toInt.toNat (.int p)) 141 x.toInt.toNat (.int u)) 223 x.toInt.toNat (.int t)) 224 x.toInt.toNat (.int p)) 225 x.toInt.toNat (.int u)) 181 59) ||| ((1 : Int32) <<< (x &&& 31))))) := by
  have q0 := mq_of h
  have q1 := mq_put (a := 139) (i := x.toInt.toNat) (v := .int t) q0 (by unfold qM; omega) (show aTy (tTy (tGrp 139) _) _ from ⟨_, rfl, by show (0 : Int) ≤ _; omega, by show _ ≤ (999 : Int); omega⟩)
  have q2 := mq_put (a := 140) (i := x.toInt.toNat) (v := .int p) q1 (by unfold qM; omega) (show aTy (tTy (tGrp 140) _) _ from ⟨_, rfl, by show (0 : Int) ≤ _; omega, by show _ ≤ (9999 : Int); omega⟩)
  have q3 := mq_put (a := 141) (i := x.toInt.toNat) (v := .int u) q2 (by unfold qM; omega) (show aTy (tTy (tGrp 141) _) _ from ⟨_, rfl, by show (0 : Int) ≤ _; omega, by show _ ≤ (99 : Int); omega⟩)
  refine ⟨q3, ?_⟩
  obtain ⟨N1, e1⟩ : ∃ N1, N1 = mPut M 139 x.toInt.toNat (.int t) := ⟨_, rfl⟩
  obtain ⟨N2, e2⟩ : ∃ N2, N2 = mPut N1 140 x.toInt.toNat (.int p) := ⟨_, rfl⟩
  obtain ⟨N3, e3⟩ : ∃ N3, N3 = mPut N2 141 x.toInt.toNat (.int u) := ⟨_, rfl⟩
  rw [← e1] at q1 q2 q3 ⊢
  rw [← e2] at q2 q3 ⊢
  rw [← e3] at q3 ⊢
  have q4 := mq_put (a := 223) (i := x.toInt.toNat) (v := .int t) q3 (by unfold qM; omega) (show aTy (tTy (tGrp 223) _) _ from ⟨_, rfl, by show (0 : Int) ≤ _; omega, by show _ ≤ (999 : Int); omega⟩)
  obtain ⟨N4, e4⟩ : ∃ N4, N4 = mPut N3 223 x.toInt.toNat (.int t) := ⟨_, rfl⟩
  rw [← e4] at q4 ⊢
  have q5 := mq_put (a := 224) (i := x.toInt.toNat) (v := .int p) q4 (by unfold qM; omega) (show aTy (tTy (tGrp 224) _) _ from ⟨_, rfl, by show (0 : Int) ≤ _; omega, by show _ ≤ (9999 : Int); omega⟩)
  obtain ⟨N5, e5⟩ : ∃ N5, N5 = mPut N4 224 x.toInt.toNat (.int p) := ⟨_, rfl⟩
  rw [← e5] at q5 ⊢
  have q6 := mq_put (a := 225) (i := x.toInt.toNat) (v := .int u) q5 (by unfold qM; omega) (show aTy (tTy (tGrp 225) _) _ from ⟨_, rfl, by show (0 : Int) ≤ _; omega, by show _ ≤ (99 : Int); omega⟩)
  obtain ⟨N6, e6⟩ : ∃ N6, N6 = mPut N5 225 x.toInt.toNat (.int u) := ⟨_, rfl⟩
  rw [← e6] at q6 ⊢
  have hxm := (aMem_x10 h).2.2.2.2.1
  have e59 : iv N6 181 59 = iv M 181 59 := by rw [e6, iv_put_ne (Or.inl (by decide)), e5, iv_put_ne (Or.inl (by decide)), e4, iv_put_ne (Or.inl (by decide)), e3, iv_put_ne (Or.inl (by decide)), e2, iv_put_ne (Or.inl (by decide)), e1, iv_put_ne (Or.inl (by decide))]
  rw [e59]
  obtain ⟨b0, b1, b2⟩ := bo_i (x := iv M 181 59) (k := x) hxm.2.1.1 hxm.2.1.2 hx.1 hx.2
  have q7 := mq_put (a := 181) (i := 59) (v := .int (iv M 181 59 ||| ((1 : Int32) <<< (x &&& 31)))) q6 (by unfold qM; omega) (show aTy (tTy (tGrp 181) _) _ from ⟨_, rfl, by show (0 : Int) ≤ _; omega, by show _ ≤ (255 : Int); omega⟩)
  obtain ⟨N7, e7⟩ : ∃ N7, N7 = mPut N6 181 59 (.int (iv M 181 59 ||| ((1 : Int32) <<< (x &&& 31)))) := ⟨_, rfl⟩
  rw [← e7] at q7 ⊢
  have xl : x.toInt.toNat < 8 := by omega
  refine mq_mem q7 (xM_buyer hxm (fun e => by rw [e] at hp; exact absurd hp.1 (by decide)) (x := x.toInt.toNat) (t := t) (p := p) (u := u) ?_ ?_ ?_ ?_ ?_ ?_ ?_ ?_ ?_ ⟨b0, b1⟩ b2)
  · intro k
    rw [e7, iv_put_ne (Or.inl (by decide)), e6, iv_put_ne (Or.inl (by decide)), e5, iv_put_ne (Or.inl (by decide)), e4, iv_put_ne (Or.inl (by decide)), e3, iv_put_ne (Or.inl (by decide)), e2, iv_put_ne (Or.inl (by decide)), e1]
    exact iv_put_if (Sh.of (mq_tp q0)) (by decide) (by decide) xl
  · intro k
    rw [e7, iv_put_ne (Or.inl (by decide)), e6, iv_put_ne (Or.inl (by decide)), e5, iv_put_ne (Or.inl (by decide)), e4, iv_put_ne (Or.inl (by decide)), e3, iv_put_ne (Or.inl (by decide)), e2, iv_put_if (Sh.of (mq_tp q1)) (by decide) (by decide) xl, e1, iv_put_ne (Or.inl (by decide))]
  · intro k
    rw [e7, iv_put_ne (Or.inl (by decide)), e6, iv_put_ne (Or.inl (by decide)), e5, iv_put_ne (Or.inl (by decide)), e4, iv_put_ne (Or.inl (by decide)), e3, iv_put_if (Sh.of (mq_tp q2)) (by decide) (by decide) xl, e2, iv_put_ne (Or.inl (by decide)), e1, iv_put_ne (Or.inl (by decide))]
  · intro k
    rw [e7, iv_put_ne (Or.inl (by decide)), e6, iv_put_ne (Or.inl (by decide)), e5, iv_put_ne (Or.inl (by decide)), e4, iv_put_if (Sh.of (mq_tp q3)) (by decide) (by decide) xl, e3, iv_put_ne (Or.inl (by decide)), e2, iv_put_ne (Or.inl (by decide)), e1, iv_put_ne (Or.inl (by decide))]
  · intro k
    rw [e7, iv_put_ne (Or.inl (by decide)), e6, iv_put_ne (Or.inl (by decide)), e5, iv_put_if (Sh.of (mq_tp q4)) (by decide) (by decide) xl, e4, iv_put_ne (Or.inl (by decide)), e3, iv_put_ne (Or.inl (by decide)), e2, iv_put_ne (Or.inl (by decide)), e1, iv_put_ne (Or.inl (by decide))]
  · intro k
    rw [e7, iv_put_ne (Or.inl (by decide)), e6, iv_put_if (Sh.of (mq_tp q5)) (by decide) (by decide) xl, e5, iv_put_ne (Or.inl (by decide)), e4, iv_put_ne (Or.inl (by decide)), e3, iv_put_ne (Or.inl (by decide)), e2, iv_put_ne (Or.inl (by decide)), e1, iv_put_ne (Or.inl (by decide))]
  · intro i j hi
    rw [e7, iv_put_ne (Or.inl (by omega)), e6, iv_put_ne (Or.inl (by omega)), e5, iv_put_ne (Or.inl (by omega)), e4, iv_put_ne (Or.inl (by omega)), e3, iv_put_ne (Or.inl (by omega)), e2, iv_put_ne (Or.inl (by omega)), e1, iv_put_ne (Or.inl (by omega))]
  · intro k
    rw [e7, iv_put_ne (Or.inl (by decide)), e6, iv_put_ne (Or.inl (by decide)), e5, iv_put_ne (Or.inl (by decide)), e4, iv_put_ne (Or.inl (by decide)), e3, iv_put_ne (Or.inl (by decide)), e2, iv_put_ne (Or.inl (by decide)), e1, iv_put_ne (Or.inl (by decide))]
  · rw [e7]
    exact iv_put_eq (Sh.of (mq_tp q6)) (by decide) (by decide) (by decide)
theorem hears_mem {s : List Int32} {γ : Gh} {M : Mem} {x t u : Int32} (h : aMem (s, γ) M) (hx : 0 ≤ x.toInt ∧ x.toInt < 8) (ht : 0 ≤ t.toInt ∧ t.toInt < 8) (hu : 0 ≤ u.toInt ∧ u.toInt < 101) : mq s γ (mPut M (143 + x.toInt.toNat) t.toInt.toNat (.int u)) ∧ aMem (s, γ) (mPut (mPut M (143 + x.toInt.toNat) t.toInt.toNat (.int u)) 226 (((8 : Int32) * x) + t).toInt.toNat (.int (u - (100 : Int32)))) := by
  have q0 := mq_of h
  obtain ⟨rw0, rw1, rw2⟩ := row_g x.toInt.toNat (by omega)
  have e8 : ((8 : Int32) * x).toInt = 8 * x.toInt := i32_mul (x := 8) (by show -2147483648 ≤ 8 * x.toInt; omega) (by show 8 * x.toInt ≤ _; omega)
  have e9 : (((8 : Int32) * x) + t).toInt = 8 * x.toInt + t.toInt := by rw [i32_add (by omega) (by omega), e8]
  have e7 : (u - (100 : Int32)).toInt = u.toInt - 100 := i32_sub (y := 100) (by show -2147483648 ≤ u.toInt - 100; omega) (by show u.toInt - 100 ≤ _; omega)
  have q1 := mq_put (a := 143 + x.toInt.toNat) (i := t.toInt.toNat) (v := .int u) q0 (by unfold qM; omega) (by rw [rw2]; exact ⟨u, rfl, by show (0 : Int) ≤ _; omega, by show _ ≤ (100 : Int); omega⟩)
  refine ⟨q1, ?_⟩
  rw [show (((8 : Int32) * x) + t).toInt.toNat = 8 * x.toInt.toNat + t.toInt.toNat by omega]
  obtain ⟨N1, e1⟩ : ∃ N1, N1 = mPut M (143 + x.toInt.toNat) t.toInt.toNat (.int u) := ⟨_, rfl⟩
  rw [← e1] at q1 ⊢
  have q2 := mq_put (a := 226) (i := 8 * x.toInt.toNat + t.toInt.toNat) (v := .int (u - (100 : Int32))) q1 (by unfold qM; omega) (show aTy (tTy (tGrp 226) _) _ from ⟨_, rfl, by show (-100 : Int) ≤ _; omega, by show _ ≤ (0 : Int); omega⟩)
  obtain ⟨N2, e2⟩ : ∃ N2, N2 = mPut N1 226 (8 * x.toInt.toNat + t.toInt.toNat) (.int (u - (100 : Int32))) := ⟨_, rfl⟩
  rw [← e2] at q2 ⊢
  refine mq_mem q2 (xM_hears (aMem_x10 h).2.2.2.2.1 (x := x.toInt.toNat) (t := t.toInt.toNat) (u := u) (by omega) ?_ ?_ ?_ e7)
  · intro c k hc
    rw [e2, iv_put_ne (Or.inl (by omega)), e1, iv_put_ne (Or.inl (by omega))]
  · intro i j hi
    rw [e2, iv_put_ne (Or.inl (by omega)), e1]
    by_cases c : i = x.toInt.toNat
    · subst c
      rw [iv_put_if (Sh.of (mq_tp q0)) rw0 rw1 (by rw [rw2]; show t.toInt.toNat < 8; omega)]
      by_cases c2 : j = t.toInt.toNat
      · rw [if_pos c2, if_pos ⟨rfl, c2⟩]
      · rw [if_neg c2, if_neg (fun q => c2 q.2)]
    · rw [iv_put_ne (Or.inl (by omega)), if_neg (fun q => c q.1)]
  · intro j
    rw [e2, iv_put_if (Sh.of (mq_tp q1)) (by decide) (by decide) (by show _ < 64; omega), e1, iv_put_ne (Or.inl (by omega))]
theorem gs_c27 {s : List Int32} : gSound s sg_c27 := by
  intro γ d σ L st0 st M Q hd hA k
  have hst := hd.2 (by show 1 ≤ 5; decide)
  have hd := hd.1
  have hd : 5 ≤ d := hd
  have h := aHoldX_0 hA
  have e0 := eNil h
  subst e0
  subst hst
  obtain ⟨l0, el⟩ := eS h rfl
  have el : σ 1 = (s.length : Int) := el
  have l1 := eR h (i := 1) (g := 2) (c := 0) rfl rfl
  have l2 := eR h (i := 2) (g := 181) (c := 0) rfl rfl
  obtain ⟨l3, hl3, el3⟩ := eI h (i := 3) (sy := 2) (c := 0) rfl
  have b1 := eB h (i := 1) (lo := 0) (hi := 576) rfl
  have b2 := eB h (i := 2) (lo := 0) (hi := 576) rfl
  have b3 := eB h (i := 3) (lo := (-2147483648)) (hi := 2147483647) rfl
  have b4 := eB h (i := 4) (lo := (-2147483648)) (hi := 2147483647) rfl
  have b5 := eB h (i := 5) (lo := (-2147483648)) (hi := 2147483647) rfl
  have b6 := eB h (i := 6) (lo := (-2147483648)) (hi := 2147483647) rfl
  have z0 := (h.1.2.1.2.2 2 1 (-9) (List.Mem.head _)).2.2
  have s0 := h.1.2.1.1
  have hM := hA.2.2.2
  have h8 : x8 (s, γ) := hM.1.2.1
  have hT := aTp_of (aMem_0 (aMem_to9 hM))
  have q10_0 : (γ 1010 0).toInt = σ 2 + 0 := eG h (g := 1010) (i := 0) (sy := 2) (c := 0) (by decide) (List.Mem.head _)
  have q11_1 : (γ 1011 1).toInt = σ 3 + 0 := eG h (g := 1011) (i := 1) (sy := 3) (c := 0) (by decide) (List.Mem.tail _ (List.Mem.head _))
  have q11_2 : (γ 1011 2).toInt = σ 4 + 0 := eG h (g := 1011) (i := 2) (sy := 4) (c := 0) (by decide) (List.Mem.tail _ (List.Mem.tail _ (List.Mem.head _)))
  have q11_3 : (γ 1011 3).toInt = σ 5 + 0 := eG h (g := 1011) (i := 3) (sy := 5) (c := 0) (by decide) (List.Mem.tail _ (List.Mem.tail _ (List.Mem.tail _ (List.Mem.head _))))
  have q11_4 : (γ 1011 4).toInt = σ 6 + 0 := eG h (g := 1011) (i := 4) (sy := 6) (c := 0) (by decide) (List.Mem.tail _ (List.Mem.tail _ (List.Mem.tail _ (List.Mem.tail _ (List.Mem.head _)))))
  refine kAload (mi := 282) (pc := 1541) (len := 1) (i := 1) rfl l1 ?_
  refine kArg (pc := 1542) (c := 1) (ln := 1) (ci := 1) (γ := γ) rfl rfl rfl rfl rfl rfl (by decide) (by decide) l0 hl3 hT h8 (by omega) (by omega) (by omega) (by omega) ?_
  refine kArg (pc := 1547) (c := 2) (ln := 1) (ci := 2) (γ := γ) rfl rfl rfl rfl rfl rfl (by decide) (by decide) l0 hl3 hT h8 (by omega) (by omega) (by omega) (by omega) ?_
  refine kArg (pc := 1552) (c := 3) (ln := 1) (ci := 3) (γ := γ) rfl rfl rfl rfl rfl rfl (by decide) (by decide) l0 hl3 hT h8 (by omega) (by omega) (by omega) (by omega) ?_
  refine kArg (pc := 1557) (c := 4) (ln := 1) (ci := 4) (γ := γ) rfl rfl rfl rfl rfl rfl (by decide) (by decide) l0 hl3 hT h8 (by omega) (by omega) (by omega) (by omega) ?_
  refine Ok.call (mi := 282) (pc := 1562) (j := 136) (len := 3) rfl (Or.inr (Or.inl rfl)) (by decide) (mCall_ok (n := 5) (l := 5) (rk := 2) (own := 10) (kd := 1) (as := [.ref 2, .int (γ 1011 1), .int (γ 1011 2), .int (γ 1011 3), .int (γ 1011 4)]) (rest := []) (by omega) (by decide) rfl rfl rfl rfl rfl rfl (Or.inr (Or.inl ⟨rfl, (tag_of hT (a := 2) (by decide) (by decide)).trans rfl⟩))) ?_
  refine (buyC_ok (by omega) hT).mono ?_
  intro r1 M1 hr1
  obtain ⟨er1, eM1⟩ := hr1
  subst er1
  refine kPopI (mi := 282) (pc := 1565) (len := 1) rfl ?_
  refine kAload (mi := 282) (len := 1) (i := 2) rfl l2 ?_
  have hT1 : aTp s M1 := by
    rw [eM1]
    cases hb : (bIn (γ 1011 1) 8 && (bDay (γ 1011 2) && (!decide ((γ 1011 3).toInt < 1) && (decide ((γ 1011 3).toInt < 10000) && bIn (γ 1011 4) 100)))) with
    | false => exact hT
    | true =>
      obtain ⟨g0, g1, g2, g3⟩ := buy_true hb
      exact mq_tp (buyer_mem hM g0 g1 g2 g3).1
  refine kArg (pc := 1567) (c := 1) (ln := 1) (ci := 1) (γ := γ) rfl rfl rfl rfl rfl rfl (by decide) (by decide) l0 hl3 hT1 h8 (by omega) (by omega) (by omega) (by omega) ?_
  refine kArg (pc := 1572) (c := 2) (ln := 1) (ci := 2) (γ := γ) rfl rfl rfl rfl rfl rfl (by decide) (by decide) l0 hl3 hT1 h8 (by omega) (by omega) (by omega) (by omega) ?_
  refine kArg (pc := 1577) (c := 3) (ln := 1) (ci := 3) (γ := γ) rfl rfl rfl rfl rfl rfl (by decide) (by decide) l0 hl3 hT1 h8 (by omega) (by omega) (by omega) (by omega) ?_
  refine kArg (pc := 1582) (c := 4) (ln := 1) (ci := 4) (γ := γ) rfl rfl rfl rfl rfl rfl (by decide) (by decide) l0 hl3 hT1 h8 (by omega) (by omega) (by omega) (by omega) ?_
  refine Ok.call (mi := 282) (pc := 1587) (j := 261) (len := 3) rfl (Or.inr (Or.inl rfl)) (by decide) (mCall_ok (n := 5) (l := 5) (rk := 2) (own := 11) (kd := 1) (as := [.ref 181, .int (γ 1011 1), .int (γ 1011 2), .int (γ 1011 3), .int (γ 1011 4)]) (rest := []) (by omega) (by decide) rfl rfl rfl rfl rfl rfl (Or.inr (Or.inl ⟨rfl, (tag_of hT1 (a := 181) (by decide) (by decide)).trans rfl⟩))) ?_
  refine (buyR_ok (by omega) hT1).mono ?_
  intro r2 M2 hr2
  obtain ⟨er2, eM2⟩ := hr2
  subst er2
  refine kPopI (mi := 282) (pc := 1590) (len := 1) rfl ?_
  rw [buyG_eq] at eM2
  cases hb : (bIn (γ 1011 1) 8 && (bDay (γ 1011 2) && (!decide ((γ 1011 3).toInt < 1) && (decide ((γ 1011 3).toInt < 10000) && bIn (γ 1011 4) 100)))) with
  | false =>
    rw [hb] at eM1 eM2
    have e : M2 = M := eM2.trans eM1
    subst e
    exact k γ σ _ L [] _ (List.Mem.head _) (fun _ _ => rfl) aFr.rf gFr.rf aExt.rf (mkHoldX (by decide) s0 ⟨b00 s0, b1, b2, b3, b4, b5, b6, True.intro⟩ True.intro True.intro True.intro hM)
  | true =>
    rw [hb] at eM1 eM2
    obtain ⟨g0, g1, g2, g3⟩ := buy_true hb
    have hM2 := (buyer_mem hM g0 g1 g2 g3).2
    have e : M2 = (mPut (mPut (mPut (mPut (mPut (mPut (mPut M 139 (γ 1011 1).toInt.toNat (.int (γ 1011 2))) 140 (γ 1011 1).toInt.toNat (.int (γ 1011 3))) 141 (γ 1011 1).toInt.toNat (.int (γ 1011 4))) 223 (γ 1011 1).toInt.toNat (.int (γ 1011 2))) 224 (γ 1011 1).toInt.toNat (.int (γ 1011 3))) 225 (γ 1011 1).toInt.toNat (.int (γ 1011 4))) 181 59 (.int ((iv (mPut (mPut (mPut (mPut (mPut (mPut M 139 (γ 1011 1).toInt.toNat (.int (γ 1011 2))) 140 (γ 1011 1).toInt.toNat (.int (γ 1011 3))) 141 (γ 1011 1).toInt.toNat (.int (γ 1011 4))) 223 (γ 1011 1).toInt.toNat (.int (γ 1011 2))) 224 (γ 1011 1).toInt.toNat (.int (γ 1011 3))) 225 (γ 1011 1).toInt.toNat (.int (γ 1011 4))) 181 59) ||| ((1 : Int32) <<< ((γ 1011 1) &&& 31))))) := by
      rw [eM2, eM1]
      rfl
    rw [← e] at hM2
    have fr : aFr [(139, 0), (140, 0), (141, 0), (181, 59), (223, 0), (224, 0), (225, 0)] M M2 := by
      rw [e]
      exact (((((((aFr_put rfl).tr (aFr_put rfl)).tr (aFr_put rfl)).tr (aFr_put rfl)).tr (aFr_put rfl)).tr (aFr_put rfl)).tr (aFr_put rfl))
    exact k γ σ _ L [] _ (List.Mem.head _) (fun _ _ => rfl) fr gFr.rf aExt.rf (mkHoldX (by decide) s0 ⟨b00 s0, b1, b2, b3, b4, b5, b6, True.intro⟩ True.intro True.intro True.intro hM2)
theorem gs_c28 {s : List Int32} : gSound s sg_c28 := by
  intro γ d σ L st0 st M Q hd hA k
  have hst := hd.2 (by show 1 ≤ 5; decide)
  have hd := hd.1
  have hd : 5 ≤ d := hd
  have h := aHoldX_0 hA
  have e0 := eNil h
  subst e0
  subst hst
  obtain ⟨l0, el⟩ := eS h rfl
  have el : σ 1 = (s.length : Int) := el
  have l1 := eR h (i := 1) (g := 2) (c := 0) rfl rfl
  have l2 := eR h (i := 2) (g := 181) (c := 0) rfl rfl
  obtain ⟨l3, hl3, el3⟩ := eI h (i := 3) (sy := 2) (c := 0) rfl
  have b1 := eB h (i := 1) (lo := 0) (hi := 576) rfl
  have b2 := eB h (i := 2) (lo := 0) (hi := 576) rfl
  have b3 := eB h (i := 3) (lo := (-2147483648)) (hi := 2147483647) rfl
  have b4 := eB h (i := 4) (lo := (-2147483648)) (hi := 2147483647) rfl
  have b5 := eB h (i := 5) (lo := (-2147483648)) (hi := 2147483647) rfl
  have z0 := (h.1.2.1.2.2 2 1 (-9) (List.Mem.head _)).2.2
  have s0 := h.1.2.1.1
  have hM := hA.2.2.2
  have h8 : x8 (s, γ) := hM.1.2.1
  have hT := aTp_of (aMem_0 (aMem_to9 hM))
  have q10_0 : (γ 1010 0).toInt = σ 2 + 0 := eG h (g := 1010) (i := 0) (sy := 2) (c := 0) (by decide) (List.Mem.head _)
  have q11_1 : (γ 1011 1).toInt = σ 3 + 0 := eG h (g := 1011) (i := 1) (sy := 3) (c := 0) (by decide) (List.Mem.tail _ (List.Mem.head _))
  have q11_2 : (γ 1011 2).toInt = σ 4 + 0 := eG h (g := 1011) (i := 2) (sy := 4) (c := 0) (by decide) (List.Mem.tail _ (List.Mem.tail _ (List.Mem.head _)))
  have q11_3 : (γ 1011 3).toInt = σ 5 + 0 := eG h (g := 1011) (i := 3) (sy := 5) (c := 0) (by decide) (List.Mem.tail _ (List.Mem.tail _ (List.Mem.tail _ (List.Mem.head _))))
  refine kAload (mi := 282) (pc := 1594) (len := 1) (i := 1) rfl l1 ?_
  refine kArg (pc := 1595) (c := 1) (ln := 1) (ci := 1) (γ := γ) rfl rfl rfl rfl rfl rfl (by decide) (by decide) l0 hl3 hT h8 (by omega) (by omega) (by omega) (by omega) ?_
  refine kArg (pc := 1600) (c := 2) (ln := 1) (ci := 2) (γ := γ) rfl rfl rfl rfl rfl rfl (by decide) (by decide) l0 hl3 hT h8 (by omega) (by omega) (by omega) (by omega) ?_
  refine kArg (pc := 1605) (c := 3) (ln := 1) (ci := 3) (γ := γ) rfl rfl rfl rfl rfl rfl (by decide) (by decide) l0 hl3 hT h8 (by omega) (by omega) (by omega) (by omega) ?_
  refine Ok.call (mi := 282) (pc := 1610) (j := 137) (len := 3) rfl (Or.inr (Or.inl rfl)) (by decide) (mCall_ok (n := 4) (l := 4) (rk := 2) (own := 10) (kd := 1) (as := [.ref 2, .int (γ 1011 1), .int (γ 1011 2), .int (γ 1011 3)]) (rest := []) (by omega) (by decide) rfl rfl rfl rfl rfl rfl (Or.inr (Or.inl ⟨rfl, (tag_of hT (a := 2) (by decide) (by decide)).trans rfl⟩))) ?_
  refine (hearC_ok (by omega) hT (aMem_x10 hM).1.2.2.2).mono ?_
  intro r1 M1 hr1
  obtain ⟨er1, eM1⟩ := hr1
  subst er1
  refine kPopI (mi := 282) (pc := 1613) (len := 1) rfl ?_
  refine kAload (mi := 282) (len := 1) (i := 2) rfl l2 ?_
  have hT1 : aTp s M1 := by
    rw [eM1]
    cases hb : (bIn (γ 1011 1) 8 && (bIn (γ 1011 2) 8 && (!decide ((γ 1011 1).toInt = (γ 1011 2).toInt) && bIn (γ 1011 3) 101))) with
    | false => exact hT
    | true =>
      obtain ⟨g0, g1, g2⟩ := hear_true hb
      exact mq_tp (hears_mem hM g0 g1 g2).1
  refine kArg (pc := 1615) (c := 1) (ln := 1) (ci := 1) (γ := γ) rfl rfl rfl rfl rfl rfl (by decide) (by decide) l0 hl3 hT1 h8 (by omega) (by omega) (by omega) (by omega) ?_
  refine kArg (pc := 1620) (c := 2) (ln := 1) (ci := 2) (γ := γ) rfl rfl rfl rfl rfl rfl (by decide) (by decide) l0 hl3 hT1 h8 (by omega) (by omega) (by omega) (by omega) ?_
  refine kArg (pc := 1625) (c := 3) (ln := 1) (ci := 3) (γ := γ) rfl rfl rfl rfl rfl rfl (by decide) (by decide) l0 hl3 hT1 h8 (by omega) (by omega) (by omega) (by omega) ?_
  refine Ok.call (mi := 282) (pc := 1630) (j := 262) (len := 3) rfl (Or.inr (Or.inl rfl)) (by decide) (mCall_ok (n := 4) (l := 4) (rk := 2) (own := 11) (kd := 1) (as := [.ref 181, .int (γ 1011 1), .int (γ 1011 2), .int (γ 1011 3)]) (rest := []) (by omega) (by decide) rfl rfl rfl rfl rfl rfl (Or.inr (Or.inl ⟨rfl, (tag_of hT1 (a := 181) (by decide) (by decide)).trans rfl⟩))) ?_
  refine (hearR_ok (by omega) hT1).mono ?_
  intro r2 M2 hr2
  obtain ⟨er2, eM2⟩ := hr2
  subst er2
  refine kPopI (mi := 282) (pc := 1633) (len := 1) rfl ?_
  rw [hearG_eq] at eM2
  cases hb : (bIn (γ 1011 1) 8 && (bIn (γ 1011 2) 8 && (!decide ((γ 1011 1).toInt = (γ 1011 2).toInt) && bIn (γ 1011 3) 101))) with
  | false =>
    rw [hb] at eM1 eM2
    have e : M2 = M := eM2.trans eM1
    subst e
    exact k γ σ _ L [] _ (List.Mem.head _) (fun _ _ => rfl) aFr.rf gFr.rf aExt.rf (mkHoldX (by decide) s0 ⟨b00 s0, b1, b2, b3, b4, b5, True.intro⟩ True.intro True.intro True.intro hM)
  | true =>
    rw [hb] at eM1 eM2
    obtain ⟨g0, g1, g2⟩ := hear_true hb
    have hM2 := (hears_mem hM g0 g1 g2).2
    have e : M2 = (mPut (mPut M (143 + (γ 1011 1).toInt.toNat) (γ 1011 2).toInt.toNat (.int (γ 1011 3))) 226 (((8 : Int32) * (γ 1011 1)) + (γ 1011 2)).toInt.toNat (.int ((γ 1011 3) - (100 : Int32)))) := by
      rw [eM2, eM1]
      rfl
    rw [← e] at hM2
    have fr : aFr [(143, 0), (226, 0)] M M2 := by
      rw [e]
      exact ((aFr_put (by unfold aSlK; rw [(row_g (γ 1011 1).toInt.toNat (by omega)).2.2]; rfl)).tr (aFr_put rfl))
    exact k γ σ _ L [] _ (List.Mem.head _) (fun _ _ => rfl) fr gFr.rf aExt.rf (mkHoldX (by decide) s0 ⟨b00 s0, b1, b2, b3, b4, b5, True.intro⟩ True.intro True.intro True.intro hM2)
theorem gs_c8 {s : List Int32} : gSound s sg_c8 := by
  intro γ d σ L st0 st M Q hd hA k
  have hst := hd.2 (by show 1 ≤ 12; decide)
  have hd := hd.1
  have hd : 12 ≤ d := hd
  have h := aHoldX_0 hA
  have e0 := eNil h
  subst e0
  subst hst
  obtain ⟨l0, el⟩ := eS h rfl
  have el : σ 1 = (s.length : Int) := el
  have l1 := eR h (i := 1) (g := 2) (c := 0) rfl rfl
  have l2 := eR h (i := 2) (g := 181) (c := 0) rfl rfl
  obtain ⟨l3, hl3, el3⟩ := eI h (i := 3) (sy := 2) (c := 0) rfl
  have b1 := eB h (i := 1) (lo := 0) (hi := 576) rfl
  have b2 := eB h (i := 2) (lo := 0) (hi := 576) rfl
  have b3 := eB h (i := 3) (lo := (-2147483648)) (hi := 2147483647) rfl
  have b4 := eB h (i := 4) (lo := (-2147483648)) (hi := 2147483647) rfl
  have b5 := eB h (i := 5) (lo := (-2147483648)) (hi := 2147483647) rfl
  have b6 := eB h (i := 6) (lo := 0) (hi := 40) rfl
  have b7 := eB h (i := 7) (lo := 0) (hi := 60) rfl
  have z0 := (h.1.2.1.2.2 2 1 (-9) (List.Mem.head _)).2.2
  have s0 := h.1.2.1.1
  have hM := hA.2.2.2
  have h8 : x8 (s, γ) := hM.1.2.1
  have hT := aTp_of (aMem_0 (aMem_to9 hM))
  have q10_0 : (γ 1010 0).toInt = σ 2 + 0 := eG h (g := 1010) (i := 0) (sy := 2) (c := 0) (by decide) (List.Mem.head _)
  have q11_1 : (γ 1011 1).toInt = σ 3 + 0 := eG h (g := 1011) (i := 1) (sy := 3) (c := 0) (by decide) (List.Mem.tail _ (List.Mem.head _))
  have q11_2 : (γ 1011 2).toInt = σ 4 + 0 := eG h (g := 1011) (i := 2) (sy := 4) (c := 0) (by decide) (List.Mem.tail _ (List.Mem.tail _ (List.Mem.head _)))
  have q11_3 : (γ 1011 3).toInt = σ 5 + 0 := eG h (g := 1011) (i := 3) (sy := 5) (c := 0) (by decide) (List.Mem.tail _ (List.Mem.tail _ (List.Mem.tail _ (List.Mem.head _))))
  have q30_0 : (γ 1030 0).toInt = σ 6 + 0 := eG h (g := 1030) (i := 0) (sy := 6) (c := 0) (by decide) (List.Mem.tail _ (List.Mem.tail _ (List.Mem.tail _ (List.Mem.tail _ (List.Mem.head _)))))
  have q30_2 : (γ 1030 2).toInt = σ 0 + 0 := eG h (g := 1030) (i := 2) (sy := 0) (c := 0) (by decide) (List.Mem.tail _ (List.Mem.tail _ (List.Mem.tail _ (List.Mem.tail _ (List.Mem.tail _ (List.Mem.head _))))))
  obtain ⟨f7_2, hf7_2, ef7_2⟩ := eF h (g := 7) (i := 2) (sy := 6) (c := 0) (by decide) (by decide) rfl (List.Mem.tail _ (List.Mem.tail _ (List.Mem.tail _ (List.Mem.tail _ (List.Mem.tail _ (List.Mem.tail _ (List.Mem.head _)))))))
  obtain ⟨f181_0, hf181_0, ef181_0⟩ := eF h (g := 181) (i := 0) (sy := 6) (c := 0) (by decide) (by decide) rfl (List.Mem.tail _ (List.Mem.tail _ (List.Mem.tail _ (List.Mem.tail _ (List.Mem.tail _ (List.Mem.tail _ (List.Mem.tail _ (List.Mem.head _))))))))
  have q22_0 : (γ 1022 0).toInt = σ 6 + 0 := eG h (g := 1022) (i := 0) (sy := 6) (c := 0) (by decide) (List.Mem.tail _ (List.Mem.tail _ (List.Mem.tail _ (List.Mem.tail _ (List.Mem.tail _ (List.Mem.tail _ (List.Mem.tail _ (List.Mem.tail _ (List.Mem.head _)))))))))
  have q23_0 : (γ 1023 0).toInt = σ 0 + 0 := eG h (g := 1023) (i := 0) (sy := 0) (c := 0) (by decide) (List.Mem.tail _ (List.Mem.tail _ (List.Mem.tail _ (List.Mem.tail _ (List.Mem.tail _ (List.Mem.tail _ (List.Mem.tail _ (List.Mem.tail _ (List.Mem.tail _ (List.Mem.head _))))))))))
  obtain ⟨f93_3, hf93_3, ef93_3⟩ := eF h (g := 93) (i := 3) (sy := 7) (c := 0) (by decide) (by decide) rfl (List.Mem.tail _ (List.Mem.tail _ (List.Mem.tail _ (List.Mem.tail _ (List.Mem.tail _ (List.Mem.tail _ (List.Mem.tail _ (List.Mem.tail _ (List.Mem.tail _ (List.Mem.tail _ (List.Mem.head _)))))))))))
  obtain ⟨f181_15, hf181_15, ef181_15⟩ := eF h (g := 181) (i := 15) (sy := 7) (c := 0) (by decide) (by decide) rfl (List.Mem.tail _ (List.Mem.tail _ (List.Mem.tail _ (List.Mem.tail _ (List.Mem.tail _ (List.Mem.tail _ (List.Mem.tail _ (List.Mem.tail _ (List.Mem.tail _ (List.Mem.tail _ (List.Mem.tail _ (List.Mem.head _))))))))))))
  have hx := aMem_x10 hM
  obtain ⟨n, hn⟩ : ∃ n : Nat, σ 6 = n := ⟨(σ 6).toNat, by omega⟩
  have c72 : (iv M 7 2).toInt = n := by rw [iv_of hf7_2]; omega
  have c181 : (iv M 181 0).toInt = n := by rw [iv_of hf181_0]; omega
  have hAL := AL_of hM (n := n) (by omega) (show (γ 1030 2).toInt = 0 by omega) (show (γ 1030 0).toInt = n by omega) c72 c181
  have kK := hx.2.2.2.2.2
  have kA0 := kK.1.1 (show (γ 1023 0).toInt = 0 by omega)
  have i93 : (iv M 93 3).toInt = σ 7 := by rw [iv_of hf93_3]; omega
  have i15 : (iv M 181 15).toInt = (iv M 93 3).toInt := by rw [iv_of hf181_15, iv_of hf93_3]; omega
  refine kAload (mi := 282) (pc := 582) (len := 1) (i := 1) rfl l1 ?_
  refine kArg (pc := 583) (c := 1) (ln := 1) (ci := 1) (γ := γ) rfl rfl rfl rfl rfl rfl (by decide) (by decide) l0 hl3 hT h8 (by omega) (by omega) (by omega) (by omega) ?_
  refine kArg (pc := 588) (c := 2) (ln := 1) (ci := 2) (γ := γ) rfl rfl rfl rfl rfl rfl (by decide) (by decide) l0 hl3 hT h8 (by omega) (by omega) (by omega) (by omega) ?_
  refine kArg (pc := 593) (c := 3) (ln := 1) (ci := 3) (γ := γ) rfl rfl rfl rfl rfl rfl (by decide) (by decide) l0 hl3 hT h8 (by omega) (by omega) (by omega) (by omega) ?_
  refine Ok.call (mi := 282) (pc := 598) (j := 117) (len := 3) rfl (Or.inr (Or.inl rfl)) (by decide) (mCall_ok (n := 4) (l := 4) (rk := 1) (own := 10) (kd := 1) (as := [.ref 2, .int (γ 1011 1), .int (γ 1011 2), .int (γ 1011 3)]) (rest := []) (by omega) (by decide) rfl rfl rfl rfl rfl rfl (Or.inr (Or.inl ⟨rfl, (tag_of hT (a := 2) (by decide) (by decide)).trans rfl⟩))) ?_
  refine (heardC_ok (by omega) hT hx.1.1 hx.1.2.2.1).mono ?_
  intro r1 M1 hr1
  obtain ⟨y1, er1, hr1⟩ := hr1
  subst er1
  refine kPopI (mi := 282) (pc := 601) (len := 1) rfl ?_
  refine kAload (mi := 282) (len := 1) (i := 2) rfl l2 ?_
  have hT1 : aTp s M1 := by
    rcases hr1 with ⟨_, _, _, c⟩ | ⟨_, e⟩
    · exact c.1
    · rw [e]
      exact hT
  have cls : ∀ c i, 115 < c → mSlot M1 c i = mSlot M c i := fun c i hc => by
    rcases hr1 with ⟨_, _, _, d⟩ | ⟨_, e⟩
    · rw [d.2.1 c i (by omega)]
      unfold hPutC
      rw [mSlot_put_ne (Or.inl (by omega)), mSlot_put_ne (Or.inl (by omega)), mSlot_put_ne (Or.inl (by omega)), mSlot_put_ne (Or.inl (by omega))]
    · rw [e]
  have clv : ∀ c i, 115 < c → iv M1 c i = iv M c i := fun c i hc => by unfold iv; rw [cls c i hc]
  have gq : hGr M1 (γ 1011 1) (γ 1011 2) (γ 1011 3) = hGd M (γ 1011 1) (γ 1011 2) (γ 1011 3) := hG_eq (AL_kn hAL (fun c i q => clv c i (by omega))) (by rw [clv 181 15 (by decide)]; exact i15) (by omega)
  refine kArg (pc := 603) (c := 1) (ln := 1) (ci := 1) (γ := γ) rfl rfl rfl rfl rfl rfl (by decide) (by decide) l0 hl3 hT1 h8 (by omega) (by omega) (by omega) (by omega) ?_
  refine kArg (pc := 608) (c := 2) (ln := 1) (ci := 2) (γ := γ) rfl rfl rfl rfl rfl rfl (by decide) (by decide) l0 hl3 hT1 h8 (by omega) (by omega) (by omega) (by omega) ?_
  refine kArg (pc := 613) (c := 3) (ln := 1) (ci := 3) (γ := γ) rfl rfl rfl rfl rfl rfl (by decide) (by decide) l0 hl3 hT1 h8 (by omega) (by omega) (by omega) (by omega) ?_
  refine Ok.call (mi := 282) (pc := 618) (j := 182) (len := 3) rfl (Or.inr (Or.inl rfl)) (by decide) (mCall_ok (n := 4) (l := 4) (rk := 1) (own := 11) (kd := 1) (as := [.ref 181, .int (γ 1011 1), .int (γ 1011 2), .int (γ 1011 3)]) (rest := []) (by omega) (by decide) rfl rfl rfl rfl rfl rfl (Or.inr (Or.inl ⟨rfl, (tag_of hT1 (a := 181) (by decide) (by decide)).trans rfl⟩))) ?_
  refine (heardR_ok (by omega) hT1).mono ?_
  intro r2 M2 hr2
  obtain ⟨y2, er2, hT2, hr2⟩ := hr2
  subst er2
  refine kPopI (mi := 282) (pc := 621) (len := 1) rfl ?_
  rcases hr1 with ⟨g1, hTP, fr1, hC⟩ | ⟨g1, e1⟩
  · rcases hr2 with ⟨g2, e2⟩ | ⟨g2, _⟩
    · have hh : bHah M = false := by
        unfold hGd at g1
        rw [Bool.and_eq_true, Bool.and_eq_true, Bool.and_eq_true, Bool.and_eq_true] at g1
        cases h9 : bHah M with
        | false => rfl
        | true =>
          rw [h9] at g1
          exact absurd g1.2.2.2.2 (by decide)
      have gx : bDeed M (γ 1011 2) = true := by
        unfold hGd at g1
        rw [Bool.and_eq_true, Bool.and_eq_true] at g1
        exact g1.2.1
      have rx := bDeed_rng hT gx
      obtain ⟨p0, p1, p2, p3⟩ := hPutC_at (p := γ 1011 1) (x := γ 1011 2) (v := γ 1011 3) hT hh
      obtain ⟨H, eH⟩ : ∃ H, H = (iv M 93 3).toInt.toNat := ⟨_, rfl⟩
      rw [← eH] at p0 p1 p2
      have H60 : H < 60 := by
        have q := hh
        unfold bHah at q
        by_cases c : (iv M 93 3).toInt < 60
        · omega
        · rw [decide_eq_false c] at q
          cases q
      obtain ⟨r1, r2, r3⟩ := hPutR_at (p := γ 1011 1) (x := γ 1011 2) (v := γ 1011 3) (H := H) hT1 (by rw [clv 181 15 (by decide)]; omega) H60
      rw [← e2] at r1 r2 r3
      have f1 : ∀ c i, ¬ (100 ≤ c ∧ c ≤ 109) → iv M1 c i = iv (hPutC M (γ 1011 1) (γ 1011 2) (γ 1011 3)) c i := fun c i q => colS_iv hC (by omega)
      have f2 : ∀ c i, c ≤ 115 → iv M2 c i = iv M1 c i := fun c i q => by unfold iv; rw [r3 c i (by omega) (by omega) (by omega) (by omega)]
      have f0 : ∀ c i, c ≠ 94 → c ≠ 95 → c ≠ 96 → ¬ (c = 93 ∧ i = 3) → iv (hPutC M (γ 1011 1) (γ 1011 2) (γ 1011 3)) c i = iv M c i := fun c i a b d e => by unfold iv; rw [p3 c i a b d e]
      have cl2 : ∀ c i, 115 < c → c ≠ 195 → c ≠ 196 → c ≠ 197 → ¬ (c = 181 ∧ i = 15) → iv M2 c i = iv M c i := fun c i a b d e f => by
        rw [← clv c i a]
        unfold iv
        rw [r3 c i b d e f]
      have lo : ∀ c i, c ≤ 115 → ¬ (100 ≤ c ∧ c ≤ 109) → iv M2 c i = iv (hPutC M (γ 1011 1) (γ 1011 2) (γ 1011 3)) c i := fun c i a b => (f2 c i a).trans (f1 c i b)
      have c93 : (iv M2 93 3).toInt = (H : Int) + 1 := by rw [lo 93 3 (by decide) (by decide)]; exact p1
      have hp : ∀ c i, ¬ qKn c i → mSlot M2 c i = mSlot M c i := fun c i q => by
        have q2 : (c ≠ 94 ∧ c ≠ 95 ∧ c ≠ 96 ∧ ¬ (c = 93 ∧ i = 3)) ∧ (c < 100 ∨ 109 < c) ∧ (c ≠ 195 ∧ c ≠ 196 ∧ c ≠ 197 ∧ ¬ (c = 181 ∧ i = 15)) := by
          refine ⟨⟨?_, ?_, ?_, ?_⟩, ?_, ?_, ?_, ?_, ?_⟩ <;> (first | (intro e; apply q; unfold qKn qA; omega) | (by_cases e : c < 100 ∨ 109 < c; exact e; exact absurd (show qKn c i by unfold qKn qA; omega) q))
        rw [r3 c i q2.2.2.1 q2.2.2.2.1 q2.2.2.2.2.1 q2.2.2.2.2.2, hC.2.1 c i (by omega), p3 c i q2.1.1 q2.1.2.1 q2.1.2.2.1 q2.1.2.2.2]
      have ka : kHW M2 93 195 := by
        refine kA_hear (p := γ 1011 1) (x := γ 1011 2) (v := γ 1011 3) (H := H) kA0.1 p0 c93 (fun k => ?_) ⟨?_, fun k => ?_⟩
        · rw [lo 94 k (by decide) (by decide), lo 95 k (by decide) (by decide), lo 96 k (by decide) (by decide), (r2 k).1, (r2 k).2.1, (r2 k).2.2, clv 195 k (by decide), clv 196 k (by decide), clv 197 k (by decide)]
          exact ⟨p2 k, rfl, rfl, rfl⟩
        · rw [lo 93 6 (by decide) (by decide), f0 93 6 (by decide) (by decide) (by decide) (by decide)]
        · rw [lo 97 k (by decide) (by decide), lo 98 k (by decide) (by decide), f0 97 k (by omega) (by omega) (by omega) (by omega), f0 98 k (by omega) (by omega) (by omega) (by omega), cl2 198 k (by omega) (by omega) (by omega) (by omega) (by omega), cl2 199 k (by omega) (by omega) (by omega) (by omega) (by omega)]
          exact ⟨rfl, rfl, rfl, rfl⟩
      have ka2 : kHW M2 110 236 := by
        obtain ⟨h1, π, h2, h3⟩ := kA0.2
        have l0 : ∀ c i, 110 ≤ c → c ≤ 115 → iv M2 c i = iv M c i := fun c i a b => by rw [lo c i b (by omega), f0 c i (by omega) (by omega) (by omega) (by omega)]
        have l9 : ∀ c i, 236 ≤ c → iv M2 c i = iv M c i := fun c i a => cl2 c i (by omega) (by omega) (by omega) (by omega) (by omega)
        refine ⟨fun k hk => ?_, π, ?_, fun k hk => ?_⟩
        · rw [l0 110 3 (by decide) (by decide)] at hk
          rw [l0 (110 + 1) k (by decide) (by decide), l0 (110 + 2) k (by decide) (by decide), l0 (110 + 3) k (by decide) (by decide), l9 236 k (by decide), l9 (236 + 1) k (by decide), l9 (236 + 2) k (by decide)]
          exact h1 k hk
        · rw [l0 110 6 (by decide) (by decide)]
          refine knP_congr (fun k _ => ?_) h2
          rw [l9 (236 + 3) k (by decide)]
        · rw [l0 110 6 (by decide) (by decide)] at hk
          rw [l0 (110 + 4) k (by decide) (by decide), l0 (110 + 5) k (by decide) (by decide), l9 (236 + 3) (π k) (by decide), l9 (236 + 4) (π k) (by decide)]
          exact h3 k hk
      have kb : xKb γ M2 := by
        intro d h40 hd p hp'
        have kn2 : knO M2 d d p = knO (hPutC M (γ 1011 1) (γ 1011 2) (γ 1011 3)) d d p := knO_same (fun c i q => lo c i (by unfold qO at q; omega) (by unfold qO at q; omega)) (lo _ _ (by omega) (by omega)) (lo _ _ (by omega) (by omega)) (lo _ _ (by omega) (by omega)) d p
        rw [kn2, f2 (100 + p) d (by omega)]
        by_cases cd : d = (γ 1011 2).toInt.toNat
        · rw [cd]
          exact hC.2.2.1 p hp'
        · rw [show iv M1 (100 + p) d = iv (hPutC M (γ 1011 1) (γ 1011 2) (γ 1011 3)) (100 + p) d by unfold iv; rw [hC.2.1 _ _ (Or.inr (Or.inr cd))]]
          rw [f0 (100 + p) d (by omega) (by omega) (by omega) (by omega), kK.2 d h40 hd p hp']
          refine (knO_hear (x := γ 1011 2) (H := H) p0 p1 (by rw [(p2 H).2.1, if_pos rfl]) (by omega) (fun k hk => ?_) ⟨f0 93 6 (by decide) (by decide) (by decide) (by decide), fun k => ⟨f0 97 k (by omega) (by omega) (by omega) (by omega), f0 98 k (by omega) (by omega) (by omega) (by omega)⟩⟩ ⟨f0 _ _ (by omega) (by omega) (by omega) (by omega), f0 _ _ (by omega) (by omega) (by omega) (by omega), f0 _ _ (by omega) (by omega) (by omega) (by omega)⟩ hp').symm
          rw [(p2 k).1, (p2 k).2.1, (p2 k).2.2, if_neg (by omega), if_neg (by omega), if_neg (by omega)]
          exact ⟨rfl, rfl, rfl⟩
      have hM2 : aMem (s, γ) M2 := aMem_ofK (kn_mem0 (aMem_toK hM) hT2 hp ⟨⟨fun _ => ⟨ka, ka2⟩, fun q => absurd (show (γ 1023 0).toInt = 1 from q) (by omega), fun q => absurd (show (γ 1023 0).toInt = 2 from q) (by omega)⟩, kb⟩) (xO_same rfl (fun c i q => hp c i (fun k => by unfold qR at q; unfold qKn qA at k; omega)) (aMem_xO hM))
      have frA : aFr [(100, 0), (93, 3), (94, 0), (95, 0), (96, 0), (181, 15), (195, 0), (196, 0), (197, 0)] M M2 := by
        have a1 := aFr_wk (m' := [(100, 0), (93, 3), (94, 0), (95, 0), (96, 0), (181, 15), (195, 0), (196, 0), (197, 0)]) (fun g i q => memP_k (by decide) q) fr1
        have a2 := aFr_wk (m' := [(100, 0), (93, 3), (94, 0), (95, 0), (96, 0), (181, 15), (195, 0), (196, 0), (197, 0)]) (fun g i q => memP_k (by decide) q) hC.2.2.2
        have a3 : aFr [(100, 0), (93, 3), (94, 0), (95, 0), (96, 0), (181, 15), (195, 0), (196, 0), (197, 0)] M1 M2 := by
          rw [e2]
          unfold hPutR
          exact (((aFr_put rfl).tr (aFr_put rfl)).tr (aFr_put rfl)).tr (aFr_put rfl)
        exact (a1.tr a2).tr a3
      have w93 : mSlot M2 93 3 = some (.int (iv M2 93 3)) := (Sh.of hT2).slI (by decide) (by decide) (by decide) rfl
      have w15 : mSlot M2 181 15 = some (.int (iv M2 181 15)) := (Sh.of hT2).slI (by decide) (by decide) (by decide) rfl
      refine k γ (aUp σ 8 (iv M2 93 3).toInt) _ L [] M2 (List.Mem.head _) (fun _ _ => rfl) frA gFr.rf aUp_ext ?_
      exact mkHoldX (by decide) s0 ⟨b00 s0, b1, b2, b3, b4, b5, b6, b7, (by show 0 ≤ (iv M2 93 3).toInt ∧ (iv M2 93 3).toInt ≤ 60; omega), True.intro⟩ True.intro ⟨hF1_re rfl (by decide) (by decide) w93 (by show (iv M2 93 3).toInt = (iv M2 93 3).toInt + 0; omega), hF1_re rfl (by decide) (by decide) w15 (by show (iv M2 181 15).toInt = (iv M2 93 3).toInt + 0; omega), True.intro⟩ True.intro hM2
    · rw [gq, g1] at g2
      cases g2
  · rcases hr2 with ⟨g2, _⟩ | ⟨g2, e2⟩
    · rw [gq, g1] at g2
      cases g2
    · have e : M2 = M := e2.trans e1
      subst e
      refine k γ (aUp σ 8 f93_3.toInt) _ L [] _ (List.Mem.head _) (fun _ _ => rfl) aFr.rf gFr.rf aUp_ext ?_
      exact mkHoldX (by decide) s0 ⟨b00 s0, b1, b2, b3, b4, b5, b6, b7, (by show 0 ≤ f93_3.toInt ∧ f93_3.toInt ≤ 60; omega), True.intro⟩ True.intro ⟨hF1_re rfl (by decide) (by decide) hf93_3 (by show f93_3.toInt = f93_3.toInt + 0; omega), hF1_re rfl (by decide) (by decide) hf181_15 (by show f181_15.toInt = f93_3.toInt + 0; omega), True.intro⟩ True.intro hM
theorem gs_c9 {s : List Int32} : gSound s sg_c9 := by
  intro γ d σ L st0 st M Q hd hA k
  have hst := hd.2 (by show 1 ≤ 12; decide)
  have hd := hd.1
  have hd : 12 ≤ d := hd
  have h := aHoldX_0 hA
  have e0 := eNil h
  subst e0
  subst hst
  obtain ⟨l0, el⟩ := eS h rfl
  have el : σ 1 = (s.length : Int) := el
  have l1 := eR h (i := 1) (g := 2) (c := 0) rfl rfl
  have l2 := eR h (i := 2) (g := 181) (c := 0) rfl rfl
  obtain ⟨l3, hl3, el3⟩ := eI h (i := 3) (sy := 2) (c := 0) rfl
  have b1 := eB h (i := 1) (lo := 0) (hi := 576) rfl
  have b2 := eB h (i := 2) (lo := 0) (hi := 576) rfl
  have b3 := eB h (i := 3) (lo := (-2147483648)) (hi := 2147483647) rfl
  have b4 := eB h (i := 4) (lo := (-2147483648)) (hi := 2147483647) rfl
  have b5 := eB h (i := 5) (lo := 0) (hi := 40) rfl
  have b6 := eB h (i := 6) (lo := 0) (hi := 20) rfl
  have z0 := (h.1.2.1.2.2 2 1 (-9) (List.Mem.head _)).2.2
  have s0 := h.1.2.1.1
  have hM := hA.2.2.2
  have h8 : x8 (s, γ) := hM.1.2.1
  have hT := aTp_of (aMem_0 (aMem_to9 hM))
  have q10_0 : (γ 1010 0).toInt = σ 2 + 0 := eG h (g := 1010) (i := 0) (sy := 2) (c := 0) (by decide) (List.Mem.head _)
  have q11_1 : (γ 1011 1).toInt = σ 3 + 0 := eG h (g := 1011) (i := 1) (sy := 3) (c := 0) (by decide) (List.Mem.tail _ (List.Mem.head _))
  have q11_2 : (γ 1011 2).toInt = σ 4 + 0 := eG h (g := 1011) (i := 2) (sy := 4) (c := 0) (by decide) (List.Mem.tail _ (List.Mem.tail _ (List.Mem.head _)))
  have q30_0 : (γ 1030 0).toInt = σ 5 + 0 := eG h (g := 1030) (i := 0) (sy := 5) (c := 0) (by decide) (List.Mem.tail _ (List.Mem.tail _ (List.Mem.tail _ (List.Mem.head _))))
  have q30_2 : (γ 1030 2).toInt = σ 0 + 0 := eG h (g := 1030) (i := 2) (sy := 0) (c := 0) (by decide) (List.Mem.tail _ (List.Mem.tail _ (List.Mem.tail _ (List.Mem.tail _ (List.Mem.head _)))))
  obtain ⟨f7_2, hf7_2, ef7_2⟩ := eF h (g := 7) (i := 2) (sy := 5) (c := 0) (by decide) (by decide) rfl (List.Mem.tail _ (List.Mem.tail _ (List.Mem.tail _ (List.Mem.tail _ (List.Mem.tail _ (List.Mem.head _))))))
  obtain ⟨f181_0, hf181_0, ef181_0⟩ := eF h (g := 181) (i := 0) (sy := 5) (c := 0) (by decide) (by decide) rfl (List.Mem.tail _ (List.Mem.tail _ (List.Mem.tail _ (List.Mem.tail _ (List.Mem.tail _ (List.Mem.tail _ (List.Mem.head _)))))))
  have q22_0 : (γ 1022 0).toInt = σ 5 + 0 := eG h (g := 1022) (i := 0) (sy := 5) (c := 0) (by decide) (List.Mem.tail _ (List.Mem.tail _ (List.Mem.tail _ (List.Mem.tail _ (List.Mem.tail _ (List.Mem.tail _ (List.Mem.tail _ (List.Mem.head _))))))))
  have q23_0 : (γ 1023 0).toInt = σ 0 + 0 := eG h (g := 1023) (i := 0) (sy := 0) (c := 0) (by decide) (List.Mem.tail _ (List.Mem.tail _ (List.Mem.tail _ (List.Mem.tail _ (List.Mem.tail _ (List.Mem.tail _ (List.Mem.tail _ (List.Mem.tail _ (List.Mem.head _)))))))))
  obtain ⟨f93_6, hf93_6, ef93_6⟩ := eF h (g := 93) (i := 6) (sy := 6) (c := 0) (by decide) (by decide) rfl (List.Mem.tail _ (List.Mem.tail _ (List.Mem.tail _ (List.Mem.tail _ (List.Mem.tail _ (List.Mem.tail _ (List.Mem.tail _ (List.Mem.tail _ (List.Mem.tail _ (List.Mem.head _))))))))))
  obtain ⟨f181_16, hf181_16, ef181_16⟩ := eF h (g := 181) (i := 16) (sy := 6) (c := 0) (by decide) (by decide) rfl (List.Mem.tail _ (List.Mem.tail _ (List.Mem.tail _ (List.Mem.tail _ (List.Mem.tail _ (List.Mem.tail _ (List.Mem.tail _ (List.Mem.tail _ (List.Mem.tail _ (List.Mem.tail _ (List.Mem.head _)))))))))))
  have hx := aMem_x10 hM
  obtain ⟨n, hn⟩ : ∃ n : Nat, σ 5 = n := ⟨(σ 5).toNat, by omega⟩
  have c72 : (iv M 7 2).toInt = n := by rw [iv_of hf7_2]; omega
  have c181 : (iv M 181 0).toInt = n := by rw [iv_of hf181_0]; omega
  have hAL := AL_of hM (n := n) (by omega) (show (γ 1030 2).toInt = 0 by omega) (show (γ 1030 0).toInt = n by omega) c72 c181
  have kK := hx.2.2.2.2.2
  have kA0 := kK.1.1 (show (γ 1023 0).toInt = 0 by omega)
  have i93 : (iv M 93 6).toInt = σ 6 := by rw [iv_of hf93_6]; omega
  have i16 : (iv M 181 16).toInt = (iv M 93 6).toInt := by rw [iv_of hf181_16, iv_of hf93_6]; omega
  refine kAload (mi := 282) (pc := 625) (len := 1) (i := 1) rfl l1 ?_
  refine kArg (pc := 626) (c := 1) (ln := 1) (ci := 1) (γ := γ) rfl rfl rfl rfl rfl rfl (by decide) (by decide) l0 hl3 hT h8 (by omega) (by omega) (by omega) (by omega) ?_
  refine kArg (pc := 631) (c := 2) (ln := 1) (ci := 2) (γ := γ) rfl rfl rfl rfl rfl rfl (by decide) (by decide) l0 hl3 hT h8 (by omega) (by omega) (by omega) (by omega) ?_
  refine Ok.call (mi := 282) (pc := 636) (j := 118) (len := 3) rfl (Or.inr (Or.inl rfl)) (by decide) (mCall_ok (n := 3) (l := 3) (rk := 1) (own := 10) (kd := 1) (as := [.ref 2, .int (γ 1011 1), .int (γ 1011 2)]) (rest := []) (by omega) (by decide) rfl rfl rfl rfl rfl rfl (Or.inr (Or.inl ⟨rfl, (tag_of hT (a := 2) (by decide) (by decide)).trans rfl⟩))) ?_
  refine (wellC_ok (by omega) hT hx.1.1 hx.1.2.2.1).mono ?_
  intro r1 M1 hr1
  obtain ⟨y1, er1, hr1⟩ := hr1
  subst er1
  refine kPopI (mi := 282) (pc := 639) (len := 1) rfl ?_
  refine kAload (mi := 282) (len := 1) (i := 2) rfl l2 ?_
  have hT1 : aTp s M1 := by
    rcases hr1 with ⟨_, _, _, _, c⟩ | ⟨_, e⟩
    · exact c.1
    · rw [e]
      exact hT
  have cls : ∀ c i, 115 < c → mSlot M1 c i = mSlot M c i := fun c i hc => by
    rcases hr1 with ⟨_, N1, _, ⟨pl, _, _, _, w, _⟩, d⟩ | ⟨_, e⟩
    · rw [d.2.1 c i (by omega), w.1 c i (by omega) (by omega) (by omega)]
    · rw [e]
  have clv : ∀ c i, 115 < c → iv M1 c i = iv M c i := fun c i hc => by unfold iv; rw [cls c i hc]
  have gq : wGr M1 (γ 1011 1) (γ 1011 2) = wGd M (γ 1011 1) (γ 1011 2) := wG_eq (by rw [clv 181 16 (by decide)]; exact i16) (by omega)
  refine kArg (pc := 641) (c := 1) (ln := 1) (ci := 1) (γ := γ) rfl rfl rfl rfl rfl rfl (by decide) (by decide) l0 hl3 hT1 h8 (by omega) (by omega) (by omega) (by omega) ?_
  refine kArg (pc := 646) (c := 2) (ln := 1) (ci := 2) (γ := γ) rfl rfl rfl rfl rfl rfl (by decide) (by decide) l0 hl3 hT1 h8 (by omega) (by omega) (by omega) (by omega) ?_
  refine Ok.call (mi := 282) (pc := 651) (j := 184) (len := 3) rfl (Or.inr (Or.inl rfl)) (by decide) (mCall_ok (n := 3) (l := 3) (rk := 1) (own := 11) (kd := 1) (as := [.ref 181, .int (γ 1011 1), .int (γ 1011 2)]) (rest := []) (by omega) (by decide) rfl rfl rfl rfl rfl rfl (Or.inr (Or.inl ⟨rfl, (tag_of hT1 (a := 181) (by decide) (by decide)).trans rfl⟩))) ?_
  refine (wellR_ok (by omega) hT1).mono ?_
  intro r2 M2 hr2
  obtain ⟨y2, er2, hT2, hr2⟩ := hr2
  subst er2
  refine kPopI (mi := 282) (pc := 654) (len := 1) rfl ?_
  rcases hr1 with ⟨g1, N1, hTN, ⟨pl, w1, w2, w3, w4, fr1⟩, hA1⟩ | ⟨g1, e1⟩
  · rcases hr2 with ⟨g2, e2⟩ | ⟨g2, _⟩
    · have hh : bHaw M = false := by
        unfold wGd at g1
        rw [Bool.and_eq_true, Bool.and_eq_true, Bool.and_eq_true] at g1
        cases h9 : bHaw M with
        | false => rfl
        | true =>
          rw [h9] at g1
          exact absurd g1.2.2.2 (by decide)
      obtain ⟨W, eW⟩ : ∃ W, W = (iv M 93 6).toInt.toNat := ⟨_, rfl⟩
      rw [← eW] at w1 w3 w4
      have W20 : W < 20 := by
        have q := hh
        unfold bHaw at q
        by_cases c : (iv M 93 6).toInt < 20
        · omega
        · rw [decide_eq_false c] at q
          cases q
      have p0 : (iv M 93 6).toInt = (W : Int) := by omega
      obtain ⟨r1, r2, r3⟩ := wPutR_at (t := γ 1011 1) (q := γ 1011 2) (W := W) hT1 (by rw [clv 181 16 (by decide)]; omega) W20
      rw [← e2] at r1 r2 r3
      have f1 : ∀ c i, ¬ (100 ≤ c ∧ c ≤ 109) → iv M1 c i = iv N1 c i := fun c i q => by unfold iv; rw [hA1.2.1 c i (by omega)]
      have f2 : ∀ c i, c ≤ 115 → iv M2 c i = iv M1 c i := fun c i q => by unfold iv; rw [r3 c i (by omega) (by omega) (by omega)]
      have f0 : ∀ c i, c ≠ 97 → c ≠ 98 → ¬ (c = 93 ∧ i = 6) → iv N1 c i = iv M c i := fun c i a b e => by unfold iv; rw [w4.1 c i a b e]
      have cl2 : ∀ c i, 115 < c → c ≠ 198 → c ≠ 199 → ¬ (c = 181 ∧ i = 16) → iv M2 c i = iv M c i := fun c i a b d f => by
        rw [← clv c i a]
        unfold iv
        rw [r3 c i b d f]
      have lo : ∀ c i, c ≤ 115 → ¬ (100 ≤ c ∧ c ≤ 109) → iv M2 c i = iv N1 c i := fun c i a b => (f2 c i a).trans (f1 c i b)
      have c93 : (iv M2 93 6).toInt = (W : Int) + 1 := by rw [lo 93 6 (by decide) (by decide)]; exact w4.2.1
      have hp : ∀ c i, ¬ qKn c i → mSlot M2 c i = mSlot M c i := fun c i q => by
        have q2 : (c ≠ 97 ∧ c ≠ 98 ∧ ¬ (c = 93 ∧ i = 6)) ∧ (c < 100 ∨ 109 < c) ∧ (c ≠ 198 ∧ c ≠ 199 ∧ ¬ (c = 181 ∧ i = 16)) := by
          refine ⟨⟨?_, ?_, ?_⟩, ?_, ?_, ?_, ?_⟩ <;> (first | (intro e; apply q; unfold qKn qA; omega) | (by_cases e : c < 100 ∨ 109 < c; exact e; exact absurd (show qKn c i by unfold qKn qA; omega) q))
        rw [r3 c i q2.2.2.1 q2.2.2.2.1 q2.2.2.2.2, hA1.2.1 c i q2.2.1, w4.1 c i q2.1.1 q2.1.2.1 q2.1.2.2]
      have ka : kHW M2 93 195 := by
        refine kA_well (t := γ 1011 1) (q := γ 1011 2) (W := W) (pl := pl) kA0.1 p0 W20 c93 w1 w2 w3 (fun i hi => ?_) (fun k => ?_) ⟨?_, fun k => ?_⟩
        · rw [lo 97 i (by decide) (by decide), lo 98 i (by decide) (by decide)]
          exact w4.2.2 i hi
        · rw [(r2 k).1, (r2 k).2, clv 198 k (by decide), clv 199 k (by decide)]
          exact ⟨rfl, rfl⟩
        · rw [lo 93 3 (by decide) (by decide), f0 93 3 (by decide) (by decide) (by decide)]
        · rw [lo 94 k (by decide) (by decide), lo 95 k (by decide) (by decide), lo 96 k (by decide) (by decide), f0 94 k (by omega) (by omega) (by omega), f0 95 k (by omega) (by omega) (by omega), f0 96 k (by omega) (by omega) (by omega), cl2 195 k (by omega) (by omega) (by omega) (by omega), cl2 196 k (by omega) (by omega) (by omega) (by omega), cl2 197 k (by omega) (by omega) (by omega) (by omega)]
          exact ⟨⟨rfl, rfl, rfl⟩, rfl, rfl, rfl⟩
      have ka2 : kHW M2 110 236 := by
        obtain ⟨h1, π, h2, h3⟩ := kA0.2
        have l0 : ∀ c i, 110 ≤ c → c ≤ 115 → iv M2 c i = iv M c i := fun c i a b => by rw [lo c i b (by omega), f0 c i (by omega) (by omega) (by omega)]
        have l9 : ∀ c i, 236 ≤ c → iv M2 c i = iv M c i := fun c i a => cl2 c i (by omega) (by omega) (by omega) (by omega)
        refine ⟨fun k hk => ?_, π, ?_, fun k hk => ?_⟩
        · rw [l0 110 3 (by decide) (by decide)] at hk
          rw [l0 (110 + 1) k (by decide) (by decide), l0 (110 + 2) k (by decide) (by decide), l0 (110 + 3) k (by decide) (by decide), l9 236 k (by decide), l9 (236 + 1) k (by decide), l9 (236 + 2) k (by decide)]
          exact h1 k hk
        · rw [l0 110 6 (by decide) (by decide)]
          refine knP_congr (fun k _ => ?_) h2
          rw [l9 (236 + 3) k (by decide)]
        · rw [l0 110 6 (by decide) (by decide)] at hk
          rw [l0 (110 + 4) k (by decide) (by decide), l0 (110 + 5) k (by decide) (by decide), l9 (236 + 3) (π k) (by decide), l9 (236 + 4) (π k) (by decide)]
          exact h3 k hk
      have kb : xKb γ M2 := by
        intro d h40 hd p hp'
        have kn2 : knO M2 d d p = knO N1 d d p := knO_same (fun c i q => lo c i (by unfold qO at q; omega) (by unfold qO at q; omega)) (lo _ _ (by omega) (by omega)) (lo _ _ (by omega) (by omega)) (lo _ _ (by omega) (by omega)) d p
        have e72 : (iv N1 7 2).toInt = n := by rw [f0 7 2 (by decide) (by decide) (by decide)]; exact c72
        rw [kn2, f2 (100 + p) d (by omega)]
        exact hA1.2.2.1 d (by omega) p hp'
      have hM2 : aMem (s, γ) M2 := aMem_ofK (kn_mem0 (aMem_toK hM) hT2 hp ⟨⟨fun _ => ⟨ka, ka2⟩, fun q => absurd (show (γ 1023 0).toInt = 1 from q) (by omega), fun q => absurd (show (γ 1023 0).toInt = 2 from q) (by omega)⟩, kb⟩) (xO_same rfl (fun c i q => hp c i (fun k => by unfold qR at q; unfold qKn qA at k; omega)) (aMem_xO hM))
      have frA : aFr [(100, 0), (93, 6), (97, 0), (98, 0), (181, 16), (198, 0), (199, 0)] M M2 := by
        have a1 := aFr_wk (m' := [(100, 0), (93, 6), (97, 0), (98, 0), (181, 16), (198, 0), (199, 0)]) (fun g i q => memP_k (by decide) q) fr1
        have a2 := aFr_wk (m' := [(100, 0), (93, 6), (97, 0), (98, 0), (181, 16), (198, 0), (199, 0)]) (fun g i q => memP_k (by decide) q) hA1.2.2.2
        have a3 : aFr [(100, 0), (93, 6), (97, 0), (98, 0), (181, 16), (198, 0), (199, 0)] M1 M2 := by
          rw [e2]
          unfold wPutR
          exact ((aFr_put rfl).tr (aFr_put rfl)).tr (aFr_put rfl)
        exact (a1.tr a2).tr a3
      have w93 : mSlot M2 93 6 = some (.int (iv M2 93 6)) := (Sh.of hT2).slI (by decide) (by decide) (by decide) rfl
      have w15 : mSlot M2 181 16 = some (.int (iv M2 181 16)) := (Sh.of hT2).slI (by decide) (by decide) (by decide) rfl
      refine k γ (aUp σ 7 (iv M2 93 6).toInt) _ L [] M2 (List.Mem.head _) (fun _ _ => rfl) frA gFr.rf aUp_ext ?_
      exact mkHoldX (by decide) s0 ⟨b00 s0, b1, b2, b3, b4, b5, b6, (by show 0 ≤ (iv M2 93 6).toInt ∧ (iv M2 93 6).toInt ≤ 20; omega), True.intro⟩ True.intro ⟨hF1_re rfl (by decide) (by decide) w93 (by show (iv M2 93 6).toInt = (iv M2 93 6).toInt + 0; omega), hF1_re rfl (by decide) (by decide) w15 (by show (iv M2 181 16).toInt = (iv M2 93 6).toInt + 0; omega), True.intro⟩ True.intro hM2
    · rw [gq, g1] at g2
      cases g2
  · rcases hr2 with ⟨g2, _⟩ | ⟨g2, e2⟩
    · rw [gq, g1] at g2
      cases g2
    · have e : M2 = M := e2.trans e1
      subst e
      refine k γ (aUp σ 7 f93_6.toInt) _ L [] _ (List.Mem.head _) (fun _ _ => rfl) aFr.rf gFr.rf aUp_ext ?_
      exact mkHoldX (by decide) s0 ⟨b00 s0, b1, b2, b3, b4, b5, b6, (by show 0 ≤ f93_6.toInt ∧ f93_6.toInt ≤ 20; omega), True.intro⟩ True.intro ⟨hF1_re rfl (by decide) (by decide) hf93_6 (by show f93_6.toInt = f93_6.toInt + 0; omega), hF1_re rfl (by decide) (by decide) hf181_16 (by show f181_16.toInt = f93_6.toInt + 0; omega), True.intro⟩ True.intro hM
theorem gs_c15 {s : List Int32} : gSound s sg_c15 := by
  intro γ d σ L st0 st M Q hd hA k
  have hst := hd.2 (by show 1 ≤ 60; decide)
  have hd := hd.1
  have hd : 60 ≤ d := hd
  have h := aHoldX_0 hA
  have e0 := eNil h
  subst e0
  subst hst
  obtain ⟨l0, el⟩ := eS h rfl
  have el : σ 1 = (s.length : Int) := el
  have l1 := eR h (i := 1) (g := 2) (c := 0) rfl rfl
  have l2 := eR h (i := 2) (g := 181) (c := 0) rfl rfl
  obtain ⟨l3, hl3, el3⟩ := eI h (i := 3) (sy := 2) (c := 0) rfl
  have b1 := eB h (i := 1) (lo := 0) (hi := 576) rfl
  have b2 := eB h (i := 2) (lo := 0) (hi := 576) rfl
  have b3 := eB h (i := 3) (lo := (-2147483648)) (hi := 2147483647) rfl
  have b4 := eB h (i := 4) (lo := (-2147483648)) (hi := 2147483647) rfl
  have b5 := eB h (i := 5) (lo := (-2147483648)) (hi := 2147483647) rfl
  have b6 := eB h (i := 6) (lo := 0) (hi := 40) rfl
  have b7 := eB h (i := 7) (lo := 0) (hi := 60) rfl
  have b8 := eB h (i := 8) (lo := 0) (hi := 20) rfl
  have z0 := (h.1.2.1.2.2 2 1 (-9) (List.Mem.head _)).2.2
  have s0 := h.1.2.1.1
  have hM := hA.2.2.2
  have h8 : x8 (s, γ) := hM.1.2.1
  have hT := aTp_of (aMem_0 (aMem_to9 hM))
  have q10_0 : (γ 1010 0).toInt = σ 2 + 0 := eG h (g := 1010) (i := 0) (sy := 2) (c := 0) (by decide) (List.Mem.head _)
  have q11_1 : (γ 1011 1).toInt = σ 3 + 0 := eG h (g := 1011) (i := 1) (sy := 3) (c := 0) (by decide) (List.Mem.tail _ (List.Mem.head _))
  have q11_2 : (γ 1011 2).toInt = σ 4 + 0 := eG h (g := 1011) (i := 2) (sy := 4) (c := 0) (by decide) (List.Mem.tail _ (List.Mem.tail _ (List.Mem.head _)))
  have q11_3 : (γ 1011 3).toInt = σ 5 + 0 := eG h (g := 1011) (i := 3) (sy := 5) (c := 0) (by decide) (List.Mem.tail _ (List.Mem.tail _ (List.Mem.tail _ (List.Mem.head _))))
  have q30_0 : (γ 1030 0).toInt = σ 6 + 0 := eG h (g := 1030) (i := 0) (sy := 6) (c := 0) (by decide) (List.Mem.tail _ (List.Mem.tail _ (List.Mem.tail _ (List.Mem.tail _ (List.Mem.head _)))))
  have q30_2 : (γ 1030 2).toInt = σ 0 + 0 := eG h (g := 1030) (i := 2) (sy := 0) (c := 0) (by decide) (List.Mem.tail _ (List.Mem.tail _ (List.Mem.tail _ (List.Mem.tail _ (List.Mem.tail _ (List.Mem.head _))))))
  obtain ⟨f7_2, hf7_2, ef7_2⟩ := eF h (g := 7) (i := 2) (sy := 6) (c := 0) (by decide) (by decide) rfl (List.Mem.tail _ (List.Mem.tail _ (List.Mem.tail _ (List.Mem.tail _ (List.Mem.tail _ (List.Mem.tail _ (List.Mem.head _)))))))
  obtain ⟨f181_0, hf181_0, ef181_0⟩ := eF h (g := 181) (i := 0) (sy := 6) (c := 0) (by decide) (by decide) rfl (List.Mem.tail _ (List.Mem.tail _ (List.Mem.tail _ (List.Mem.tail _ (List.Mem.tail _ (List.Mem.tail _ (List.Mem.tail _ (List.Mem.head _))))))))
  obtain ⟨f93_3, hf93_3, ef93_3⟩ := eF h (g := 93) (i := 3) (sy := 7) (c := 0) (by decide) (by decide) rfl (List.Mem.tail _ (List.Mem.tail _ (List.Mem.tail _ (List.Mem.tail _ (List.Mem.tail _ (List.Mem.tail _ (List.Mem.tail _ (List.Mem.tail _ (List.Mem.head _)))))))))
  obtain ⟨f181_15, hf181_15, ef181_15⟩ := eF h (g := 181) (i := 15) (sy := 7) (c := 0) (by decide) (by decide) rfl (List.Mem.tail _ (List.Mem.tail _ (List.Mem.tail _ (List.Mem.tail _ (List.Mem.tail _ (List.Mem.tail _ (List.Mem.tail _ (List.Mem.tail _ (List.Mem.tail _ (List.Mem.head _))))))))))
  obtain ⟨f93_6, hf93_6, ef93_6⟩ := eF h (g := 93) (i := 6) (sy := 8) (c := 0) (by decide) (by decide) rfl (List.Mem.tail _ (List.Mem.tail _ (List.Mem.tail _ (List.Mem.tail _ (List.Mem.tail _ (List.Mem.tail _ (List.Mem.tail _ (List.Mem.tail _ (List.Mem.tail _ (List.Mem.tail _ (List.Mem.head _)))))))))))
  obtain ⟨f181_16, hf181_16, ef181_16⟩ := eF h (g := 181) (i := 16) (sy := 8) (c := 0) (by decide) (by decide) rfl (List.Mem.tail _ (List.Mem.tail _ (List.Mem.tail _ (List.Mem.tail _ (List.Mem.tail _ (List.Mem.tail _ (List.Mem.tail _ (List.Mem.tail _ (List.Mem.tail _ (List.Mem.tail _ (List.Mem.tail _ (List.Mem.head _))))))))))))
  have q22_0 : (γ 1022 0).toInt = σ 6 + 0 := eG h (g := 1022) (i := 0) (sy := 6) (c := 0) (by decide) (List.Mem.tail _ (List.Mem.tail _ (List.Mem.tail _ (List.Mem.tail _ (List.Mem.tail _ (List.Mem.tail _ (List.Mem.tail _ (List.Mem.tail _ (List.Mem.tail _ (List.Mem.tail _ (List.Mem.tail _ (List.Mem.tail _ (List.Mem.head _)))))))))))))
  have q23_0 : (γ 1023 0).toInt = σ 0 + 0 := eG h (g := 1023) (i := 0) (sy := 0) (c := 0) (by decide) (List.Mem.tail _ (List.Mem.tail _ (List.Mem.tail _ (List.Mem.tail _ (List.Mem.tail _ (List.Mem.tail _ (List.Mem.tail _ (List.Mem.tail _ (List.Mem.tail _ (List.Mem.tail _ (List.Mem.tail _ (List.Mem.tail _ (List.Mem.tail _ (List.Mem.head _))))))))))))))
  have q45_0 : (γ 1045 0).toInt = σ 0 + 0 := eG h (g := 1045) (i := 0) (sy := 0) (c := 0) (by decide) (List.Mem.tail _ (List.Mem.tail _ (List.Mem.tail _ (List.Mem.tail _ (List.Mem.tail _ (List.Mem.tail _ (List.Mem.tail _ (List.Mem.tail _ (List.Mem.tail _ (List.Mem.tail _ (List.Mem.tail _ (List.Mem.tail _ (List.Mem.tail _ (List.Mem.tail _ (List.Mem.head _)))))))))))))))
  have q21_0 : (γ 1021 0).toInt = σ 0 + 0 := eG h (g := 1021) (i := 0) (sy := 0) (c := 0) (by decide) (List.Mem.tail _ (List.Mem.tail _ (List.Mem.tail _ (List.Mem.tail _ (List.Mem.tail _ (List.Mem.tail _ (List.Mem.tail _ (List.Mem.tail _ (List.Mem.tail _ (List.Mem.tail _ (List.Mem.tail _ (List.Mem.tail _ (List.Mem.tail _ (List.Mem.tail _ (List.Mem.tail _ (List.Mem.head _))))))))))))))))
  have q24_0 : (γ 1024 0).toInt = σ 0 + 0 := eG h (g := 1024) (i := 0) (sy := 0) (c := 0) (by decide) (List.Mem.tail _ (List.Mem.tail _ (List.Mem.tail _ (List.Mem.tail _ (List.Mem.tail _ (List.Mem.tail _ (List.Mem.tail _ (List.Mem.tail _ (List.Mem.tail _ (List.Mem.tail _ (List.Mem.tail _ (List.Mem.tail _ (List.Mem.tail _ (List.Mem.tail _ (List.Mem.tail _ (List.Mem.tail _ (List.Mem.head _)))))))))))))))))
  have hx := aMem_x10 hM
  obtain ⟨n, hn⟩ : ∃ n : Nat, σ 6 = n := ⟨(σ 6).toNat, by omega⟩
  have c72 : (iv M 7 2).toInt = n := by rw [iv_of hf7_2]; omega
  have c181 : (iv M 181 0).toInt = n := by rw [iv_of hf181_0]; omega
  have hAL := AL_of hM (n := n) (by omega) (show (γ 1030 2).toInt = 0 by omega) (show (γ 1030 0).toInt = n by omega) c72 c181
  have c15 : (iv M 181 15).toInt = (iv M 93 3).toInt := by rw [iv_of hf181_15, iv_of hf93_3]; omega
  have c16 : (iv M 181 16).toInt = (iv M 93 6).toInt := by rw [iv_of hf181_16, iv_of hf93_6]; omega
  have hB : Bth M n := bth_of hM (by omega) (show (γ 1030 2).toInt = 0 by omega) (show (γ 1030 0).toInt = (n : Int) by omega) c72 c181 (show (γ 1022 0).toInt = (n : Int) by omega) (show (γ 1023 0).toInt = 0 by omega) (show (γ 1021 0).toInt = 0 by omega) (show (γ 1045 0).toInt = 0 by omega) c15 c16 (show (γ 1024 0).toInt = 0 by omega)
  have hT0 := hT
  obtain ⟨⟨hS, hR, hG⟩, hAR, hKn, ⟨W, hW⟩, hd9, hL6, hOK⟩ := hB
  have n40 : nC M ≤ 40 := by unfold nC; omega
  refine kAload (mi := 282) (pc := 903) (len := 1) (i := 1) rfl l1 ?_
  refine kArg (pc := 904) (c := 1) (ln := 1) (ci := 1) (γ := γ) rfl rfl rfl rfl rfl rfl (by decide) (by decide) l0 hl3 hT h8 (by omega) (by omega) (by omega) (by omega) ?_
  refine kArg (pc := 909) (c := 2) (ln := 1) (ci := 2) (γ := γ) rfl rfl rfl rfl rfl rfl (by decide) (by decide) l0 hl3 hT h8 (by omega) (by omega) (by omega) (by omega) ?_
  refine kArg (pc := 914) (c := 3) (ln := 1) (ci := 3) (γ := γ) rfl rfl rfl rfl rfl rfl (by decide) (by decide) l0 hl3 hT h8 (by omega) (by omega) (by omega) (by omega) ?_
  have hold2 : aHold (s, γ) (fun i => if i = 1 then (γ 1011 1).toInt else if i = 2 then (γ 1011 2).toInt else if i = 3 then (γ 1011 3).toInt else 0) ct_71.2.2.2.1 (lv_args 0 [.ref 2, .int (γ 1011 1), .int (γ 1011 2), .int (γ 1011 3)]) [] M := by
    have q := mkHoldX (scr := (s, γ)) (σ := (fun i => if i = 1 then (γ 1011 1).toInt else if i = 2 then (γ 1011 2).toInt else if i = 3 then (γ 1011 3).toInt else 0)) (B := ct_71.2.2.2.1.1.1) (Z := []) (F := []) (T := []) (st := []) (M := M) (by decide) rfl ⟨b00 rfl, ⟨(i32_rng (γ 1011 1)).1, (i32_rng (γ 1011 1)).2⟩, ⟨(i32_rng (γ 1011 2)).1, (i32_rng (γ 1011 2)).2⟩, ⟨(i32_rng (γ 1011 3)).1, (i32_rng (γ 1011 3)).2⟩, True.intro⟩ True.intro True.intro True.intro hM
    refine ⟨q.1, ?_, True.intro, hM⟩
    intro i v e
    match i, e with
    | 0, e => cases e; exact Or.inr ⟨.ref 2, rfl, 2, rfl, by decide, by decide, rfl, fun hc => absurd hc (by decide)⟩
    | 1, e => cases e; exact Or.inr ⟨.int (γ 1011 1), rfl, by decide, γ 1011 1, rfl, (Int.add_zero _).symm⟩
    | 2, e => cases e; exact Or.inr ⟨.int (γ 1011 2), rfl, by decide, γ 1011 2, rfl, (Int.add_zero _).symm⟩
    | 3, e => cases e; exact Or.inr ⟨.int (γ 1011 3), rfl, by decide, γ 1011 3, rfl, (Int.add_zero _).symm⟩
    | 4, e => cases e; exact Or.inl rfl
    | i + 5, e => cases e
  refine kCallC (c := ct_71) (R := fun r' M' => ∃ v : Int32, r' = some (.int v) ∧ holderC M W (γ 1011 1) (γ 1011 2) (γ 1011 3) v ∧ FzC M M') (cs_71) rfl rfl (mi := 282) (pc := 919) (len := 3) (j := 124) rfl (Or.inr (Or.inl rfl)) (by decide) (mCall_ok (n := 4) (l := 5) (rk := 1) (own := 10) (kd := 1) (as := [.ref 2, .int (γ 1011 1), .int (γ 1011 2), .int (γ 1011 3)]) (rest := []) (by omega) (by decide) rfl rfl rfl rfl rfl rfl (Or.inr (Or.inl ⟨rfl, (tag_of hT (a := 2) (by decide) (by decide)).trans rfl⟩))) (by show 6 ≤ d - 1; omega) hold2 (fun _ _ _ _ g => holderC_en hS hR hG hW hOK g) ?_
  intro r1 M1 γ1 hr1 fr1 gf1 hM1
  obtain ⟨v, er1, hv, fz⟩ := hr1
  subst er1
  have hT1 : aTp s M1 := aTp_of (aMem_0 (aMem_to9 hM1))
  have hS1 := Sh.of hT1
  have e1 : ∀ c i, (c < 152 ∨ 176 < c) → iv M1 c i = iv M c i := fun c i q => fz.lo q
  have hA1 := AR_r hAR (fun c i q => e1 c i (by omega))
  have hK1 := hKn M1 hS1 (fun c i q => e1 c i (by unfold qLk at q; omega))
  have hP1 : ∀ c i, 209 ≤ c → c ≤ 214 → iv M1 c i = iv M c i := fun c i a b => e1 c i (by omega)
  have hB1 : RSw M M1 := ⟨hS1, fun c i q => e1 c i (by unfold qLk at q; omega)⟩
  have hL : lysA M n := ⟨hAR, hKn⟩
  have hnn : n = nC M := by unfold nC; omega
  refine kAload (mi := 282) (pc := 922) (len := 1) (i := 2) rfl l2 ?_
  refine kArg (pc := 923) (c := 1) (ln := 1) (ci := 1) (γ := γ) rfl rfl rfl rfl rfl rfl (by decide) (by decide) l0 hl3 hT1 h8 (by omega) (by omega) (by omega) (by omega) ?_
  refine kArg (pc := 928) (c := 2) (ln := 1) (ci := 2) (γ := γ) rfl rfl rfl rfl rfl rfl (by decide) (by decide) l0 hl3 hT1 h8 (by omega) (by omega) (by omega) (by omega) ?_
  refine kArg (pc := 933) (c := 3) (ln := 1) (ci := 3) (γ := γ) rfl rfl rfl rfl rfl rfl (by decide) (by decide) l0 hl3 hT1 h8 (by omega) (by omega) (by omega) (by omega) ?_
  have hold181 : aHold (s, γ1) (fun i => if i = 1 then (γ 1011 1).toInt else if i = 2 then (γ 1011 2).toInt else if i = 3 then (γ 1011 3).toInt else 0) ct_152.2.2.2.1 (lv_args 0 [.ref 181, .int (γ 1011 1), .int (γ 1011 2), .int (γ 1011 3)]) [] M1 := by
    have q := mkHoldX (scr := (s, γ1)) (σ := (fun i => if i = 1 then (γ 1011 1).toInt else if i = 2 then (γ 1011 2).toInt else if i = 3 then (γ 1011 3).toInt else 0)) (B := ct_152.2.2.2.1.1.1) (Z := []) (F := []) (T := []) (st := []) (M := M1) (by decide) rfl ⟨b00 rfl, ⟨(i32_rng (γ 1011 1)).1, (i32_rng (γ 1011 1)).2⟩, ⟨(i32_rng (γ 1011 2)).1, (i32_rng (γ 1011 2)).2⟩, ⟨(i32_rng (γ 1011 3)).1, (i32_rng (γ 1011 3)).2⟩, True.intro⟩ True.intro True.intro True.intro hM1
    refine ⟨q.1, ?_, True.intro, hM1⟩
    intro i v e
    match i, e with
    | 0, e => cases e; exact Or.inr ⟨.ref 181, rfl, 181, rfl, by decide, by decide, rfl, fun hc => absurd hc (by decide)⟩
    | 1, e => cases e; exact Or.inr ⟨.int (γ 1011 1), rfl, by decide, γ 1011 1, rfl, (Int.add_zero _).symm⟩
    | 2, e => cases e; exact Or.inr ⟨.int (γ 1011 2), rfl, by decide, γ 1011 2, rfl, (Int.add_zero _).symm⟩
    | 3, e => cases e; exact Or.inr ⟨.int (γ 1011 3), rfl, by decide, γ 1011 3, rfl, (Int.add_zero _).symm⟩
    | 4, e => cases e; exact Or.inl rfl
    | i + 5, e => cases e
  refine kCallC (c := ct_152) (R := fun r' M' => ∃ u : Int32, r' = some (.int u) ∧ holderC M W (γ 1011 1) (γ 1011 2) (γ 1011 3) u) (cs_152 (gLiftK rfl (gLift9 rfl (gLift rfl gs_aq0))) (gLiftK rfl (gLift9 rfl (gLift rfl gs_aq1))) (gLiftK rfl (gLift9 rfl (gLift rfl gs_aq2))) (gLiftK rfl (gLift9 rfl (gLift rfl gs_bo1))) (gLiftK rfl (gLift9 rfl (gLift rfl gs_bo2))) (gLiftK rfl (gLift9 rfl (gLift rfl gs_ct0))) (gLiftK rfl (gLift9 rfl (gLift rfl gs_ct1))) (gLiftK rfl (gLift9 rfl (gLift rfl gs_ct2))) (gLiftK rfl (gLift9 rfl (gLift rfl gs_ct3a))) (gLiftK rfl (gLift9 rfl (gLift rfl gs_ct3b))) (gLiftK rfl (gLift9 rfl (gLift rfl gs_ct3c))) (gLiftK rfl (gLift9 rfl (gLift rfl gs_ct3d))) (gLiftK rfl (gLift9 rfl (gLift rfl gs_ct3e))) (gLiftK rfl (gLift9 rfl (gLift rfl gs_ct4))) (gLiftK rfl (gLift9 rfl (gLift rfl gs_ct50))) (gLiftK rfl (gLift9 rfl (gLift rfl gs_ct51))) (gLiftK rfl (gLift9 rfl (gLift rfl gs_ct52))) (gLiftK rfl (gLift9 rfl (gLift rfl gs_ct6))) (gLiftK rfl (gLift9 rfl (gLift rfl gs_ct7))) (gLiftK rfl (gLift9 rfl (gLift rfl gs_lk0))) (gLiftK rfl (gLift9 rfl (gLift rfl gs_lk1))) (gLiftK rfl (gLift9 rfl (gLift rfl gs_lk2))) (gLiftK rfl (gLift9 rfl (gLift rfl gs_lo1))) (gLiftK rfl (gLift9 rfl (gLift rfl gs_lo2))) (gLiftK rfl (gLift9 rfl (gLift rfl gs_lo3))) (gLiftK rfl (gLift9 rfl (gLift rfl gs_lo4))) (gLiftK rfl (gLift9 rfl (gLift rfl gs_nw1))) (gLiftK rfl (gLift9 rfl (gLift rfl gs_nw2))) (gLiftK rfl (gLift9 rfl (gLift rfl gs_po1)))) rfl rfl (mi := 282) (pc := 938) (len := 3) (j := 230) rfl (Or.inr (Or.inl rfl)) (by decide) (mCall_ok (n := 4) (l := 5) (rk := 1) (own := 11) (kd := 1) (as := [.ref 181, .int (γ 1011 1), .int (γ 1011 2), .int (γ 1011 3)]) (rest := [.int v]) (by omega) (by decide) rfl rfl rfl rfl rfl rfl (Or.inr (Or.inl ⟨rfl, (tag_of hT1 (a := 181) (by decide) (by decide)).trans rfl⟩))) (by show 7 ≤ d - 1; omega) hold181 (fun _ _ _ _ g => holderR_en hB1 hL hnn hOK hW (fun q hq => (hL6 q hq).1) (fun e he => (hd9 e (by omega)).2) g) ?_
  intro r2 M2 γ2 hr2 fr2 gf2 hM2
  obtain ⟨u, er2, hu⟩ := hr2
  have e : v = u := hv.trans hu.symm
  subst e
  subst er2
  refine k γ2 (aUp σ 9 v.toInt) _ L [.int v, .int v] M2 (List.Mem.head _) (fun _ _ => rfl) ((aFr.up (m := ct_71.2.2.2.2.2) (by decide) fr1).tr (aFr.up (m := ct_152.2.2.2.2.2) (by decide) fr2)) ((gFr.up (m := ct_71.2.2.2.2.2) (by decide) gf1).tr (gFr.up (m := ct_152.2.2.2.2.2) (by decide) gf2)) aUp_ext ?_
  exact mkHoldX (by decide) s0 ⟨b00 s0, b1, b2, b3, b4, b5, b6, b7, b8, ⟨(i32_rng v).1, (i32_rng v).2⟩, True.intro⟩ True.intro True.intro ⟨⟨by decide, _, rfl, (Int.add_zero _).symm⟩, ⟨by decide, _, rfl, (Int.add_zero _).symm⟩, True.intro⟩ hM2

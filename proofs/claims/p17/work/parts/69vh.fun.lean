/-! the class's reader against the machine: what is negated, brackets (printed by fn10.py) -/
theorem dec_ok {M : Mem} {t : Int → Int} {n sh z : Int} {P : PS} (hS : Sh M) (h : CT0 M t n) (hc : CR M P sh n z) (h1 : 1 ≤ P.1.2.1) : CQ M (mPut M 130 4 (.int (iv M 130 4 - 1))) ∧ CT0 (mPut M 130 4 (.int (iv M 130 4 - 1))) t n ∧ CR (mPut M 130 4 (.int (iv M 130 4 - 1))) (pOpn (pPop P) (-1)) sh n z ∧ SM M (mPut M 130 4 (.int (iv M 130 4 - 1))) := by
  have q2 := CQ.put (i := 4) (a := 130) (v := iv M 130 4 - 1) hS (by omega)
  have hn := h.2.2.1
  obtain ⟨c1, c2, c3, c4, c5, c6⟩ := hc
  refine ⟨q2, h.put hS (by omega), ⟨?_, ?_, ?_, ?_, c5, c6⟩, ?_, fun i => ?_⟩
  · rw [iv_put_ne (Or.inr (by decide))]
    exact c1
  · rw [iv_put_eq hS (by decide) (by decide) (by decide), i32_sub (by rw [c2]; show -2147483648 ≤ P.1.2.1 - 1; omega) (by rw [c2]; show P.1.2.1 - 1 ≤ 2147483647; omega), c2]
    rfl
  · rw [iv_put_ne (Or.inl (by decide))]
    exact c3
  · show 0 ≤ sh ∧ 0 ≤ P.1.2.1 + -1 ∧ P.1.2.1 + -1 ≤ 6 ∧ 0 ≤ z
    omega
  · rw [iv_put_ne (Or.inr (by decide))]
  · rw [iv_put_ne (Or.inl (by decide))]
theorem neg_ok : ∀ (n : Nat), (∀ m, m < n → KPi m) → KNg n := by
  intro n hK d M r M1 t N sh z P hS hT hC hb0 hp h
  cases n with
  | zero => exact (En.zero (mi := 81) (pc := 0) (len := 1) rfl h).elim
  | succ n =>
    replace h := eAloadS (mi := 81) (pc := 0) (len := 1) (i := 0) rfl rfl h
    replace h := eConst (mi := 81) (pc := 1) (len := 2) (v := 33) rfl h
    obtain ⟨r1, N2, g3, h⟩ := eCall (mi := 81) (pc := 3) (len := 3) (j := 74) (as := [.ref 130, .int (33 : Int32)]) (rest := []) rfl (Or.inr (Or.inl rfl)) (by decide) rfl rfl h
    have ts : (sgn M).toInt = t P.1.1 := sgn_t hT hC
    rcases open_en hS hT.1 g3 with ⟨q1, q2, q3⟩ | ⟨q1, q2, q3, q4⟩ | ⟨q1, q2, q3, q4⟩
    · exact absurd (ts.trans hp.1) q1
    · rw [q3] at h
      rcases eIf (mi := 81) (pc := 6) (len := 3) (t := 16) rfl rfl h with ⟨c4, h⟩ | ⟨c4, h⟩
      · skip
        replace h := eConst (mi := 81) (pc := 16) (len := 1) (v := 0) rfl h
        obtain ⟨e1, e2⟩ := eRetI (mi := 81) (pc := 17) (len := 1) rfl h
        rw [e2]
        have f := fail_ok (k := 5) (c := (2, 0, 0, P)) hS hT hC (by decide) (by decide) (Rch.go (sP_ng6 hp.1 (by rw [← hC.2.1]; exact q2)) Rch.rf)
        rw [← q4] at f
        exact ⟨f.1, f.2.1, Or.inr ⟨e1, f.2.2⟩⟩
      · exact absurd c4 (by decide)
    · rw [q3] at h
      have hA : CQ M N2 ∧ CT0 N2 t N ∧ CR N2 (pAdv (pOpn (pPush P 10485760) 1)) sh N (z + 1) ∧ SM M N2 := by rw [q4]; exact open_ok hS hT hC (by rw [hp.1]; decide) q2
      have s1 : sm t (2, 0, 0, P) = (2, 0, 0, pAdv (pOpn (pPush P 10485760) 1)) := sP_neg hp.1 (by rw [← hC.2.1]; exact q2)
      have tp2 : pTop (pAdv (pOpn (pPush P 10485760) 1)) = 10 := pTop_push (P := P) (w := 10) (by decide)
      rcases eIf (mi := 81) (pc := 6) (len := 3) (t := 16) rfl rfl h with ⟨c5, h⟩ | ⟨c5, h⟩
      · exact absurd c5 (by decide)
      · skip
        replace h := eAload (mi := 81) (pc := 9) (len := 1) (i := 0) rfl rfl h
        obtain ⟨r6, N7, g8, h⟩ := eCall (mi := 81) (pc := 10) (len := 3) (j := 80) (as := [.ref 130]) (rest := []) rfl (Or.inr (Or.inl rfl)) (by decide) rfl rfl h
        obtain ⟨hQ3, hT3, hR3⟩ := hK n (Nat.lt_succ_self n) _ _ _ _ t N sh (z + 1) (pAdv (pOpn (pPush P 10485760) 1)) hA.1.1 hA.2.1 hA.2.2.1 (by show 1 ≤ P.1.2.2.2 + 1; omega) (by show 10 ≤ pTop _; rw [tp2]; decide) g8
        rcases hR3 with ⟨P3, er, hr3, hC3, hF3, eO3, eW3, hk3⟩ | ⟨er, hB3⟩
        · rw [er] at h
          rcases eIf (mi := 81) (pc := 13) (len := 3) (t := 18) rfl rfl h with ⟨c9, h⟩ | ⟨c9, h⟩
          · skip
            replace h := eAload (mi := 81) (pc := 18) (len := 1) (i := 0) rfl rfl h
            replace h := eDupR (mi := 81) (pc := 19) (len := 1) rfl h
            replace h := eGetI (a := 130) (j := 504) hQ3.1 (by decide) (by decide) rfl (mi := 81) (pc := 20) (len := 3) rfl h
            replace h := eConst (mi := 81) (pc := 23) (len := 1) (v := 1) rfl h
            replace h := eSub (mi := 81) (pc := 24) (len := 1) rfl h
            obtain ⟨N10, eN10⟩ : ∃ X_, X_ = mPut N7 130 4 (.int ((iv N7 130 4) - (1 : Int32))) := ⟨_, rfl⟩
            replace h := ePutE (a := 130) (f := 4) (N := N10) rfl eN10 (mi := 81) (pc := 25) (len := 3) (j := 504) rfl h
            have hS11 : Sh N10 := by rw [eN10]; exact hQ3.1.put (by decide) (by decide) rfl
            have W3 : P3.1.2.2.2 = P.1.2.2.2 + 1 := eW3
            have O3 : P3.1.2.1 = P.1.2.1 + 1 := eO3
            have tp3 : pTop P3 = 10 := (pTop_eq hF3 eW3).trans tp2
            have hr5 := Rch.go s1 hr3
            have s0 : 0 ≤ sh := hC.2.2.2.1.1
            have hF2 := (FR.rf (M := M) (P := P) (sh := sh)).st (R := pAdv (pOpn (pPush P 10485760) 1)) hA.2.2.2 rfl rfl (Nat.le_succ _) (fun k hk => by show pUp P.2.2 P.1.2.2.2 _ k = P.2.2 k; unfold pUp; rw [if_neg (by omega)])
            have sh3 : CQ N7 N10 ∧ CT0 N10 t N ∧ CR N10 (pOpn (pPop P3) (-1)) sh N (z + 1) ∧ SM N7 N10 := by rw [eN10]; exact dec_ok hQ3.1 hT3 hC3 (by have := hC.2.2.2.1; omega)
            replace h := eAload (mi := 81) (pc := 28) (len := 1) (i := 0) rfl rfl h
            replace h := eGetR (a := 130) (j := 500) (g := 131) sh3.1.1 (by decide) (by decide) rfl rfl rfl (mi := 81) (pc := 29) (len := 3) rfl h
            replace h := eConst (mi := 81) (pc := 32) (len := 2) (v := 33) rfl h
            replace h := eConst (mi := 81) (pc := 34) (len := 1) (v := 0) rfl h
            obtain ⟨r12, N13, g14, h⟩ := eCall (mi := 81) (pc := 35) (len := 3) (j := 60) (as := [.ref 131, .int (33 : Int32), .int (0 : Int32)]) (rest := []) rfl (Or.inr (Or.inl rfl)) (by decide) rfl rfl h
            have z0 := hC.2.2.2.1.2.2.2
            have ev : (stepV (33 : Int32) (0 : Int32)).toInt = encC sh (10485760) := rfl
            obtain ⟨l160, hQ4, hT4, hC4, hF4, ei4⟩ := emit_ok (z := z) sh3.1.1 sh3.2.1 sh3.2.2.1 z0 ev
            obtain ⟨q4, eM4⟩ := step_en sh3.1.1 l160 g14
            rw [q4, eM4] at h
            replace h := ePopI (mi := 81) (pc := 38) (len := 1) rfl h
            replace h := eConst (mi := 81) (pc := 39) (len := 1) (v := 1) rfl h
            obtain ⟨e1, e2⟩ := eRetI (mi := 81) (pc := 40) (len := 1) rfl h
            rw [e2]
            have s2 : sm t (3, 0, 0, P3) = (3, 0, 0, pOpn (pPop (pEm P3 10485760)) (-1)) := sE_neg tp3
            have hF5 := ((hF2.tr s0 hF3).st (R := pOpn (pPop P3) (-1)) sh3.2.2.2 rfl rfl (by show P.1.2.2.2 ≤ P3.1.2.2.2 - 1; omega) (fun _ _ => rfl)).tr s0 hF4
            refine ⟨((hA.1.tr hQ3).tr sh3.1).tr hQ4, hT4, Or.inl ⟨pOpn (pPop (pEm P3 10485760)) (-1), e1, hr5.tr (Rch.go s2 Rch.rf), hC4, hF5, ?_, ?_, True.intro⟩⟩
            · show P3.1.2.1 + -1 = P.1.2.1
              omega
            · show P3.1.2.2.2 - 1 = P.1.2.2.2
              omega
          · exact absurd c9 (by decide)
        · rw [er] at h
          rcases eIf (mi := 81) (pc := 13) (len := 3) (t := 18) rfl rfl h with ⟨c15, h⟩ | ⟨c15, h⟩
          · exact absurd c15 (by decide)
          · skip
            replace h := eConst (mi := 81) (pc := 16) (len := 1) (v := 0) rfl h
            obtain ⟨e1, e2⟩ := eRetI (mi := 81) (pc := 17) (len := 1) rfl h
            rw [e2]
            exact ⟨hA.1.tr hQ3, hT3, Or.inr ⟨e1, CB.pre (Rch.go s1 Rch.rf) hB3⟩⟩
theorem brk_ok : ∀ (n : Nat), (∀ m, m < n → KCo m) → KBr n := by
  intro n hK d M r M1 t N sh z P hS hT hC hb0 hp h
  cases n with
  | zero => exact (En.zero (mi := 77) (pc := 0) (len := 1) rfl h).elim
  | succ n =>
    replace h := eAloadS (mi := 77) (pc := 0) (len := 1) (i := 0) rfl rfl h
    replace h := eConst (mi := 77) (pc := 1) (len := 2) (v := 40) rfl h
    obtain ⟨r1, N2, g3, h⟩ := eCall (mi := 77) (pc := 3) (len := 3) (j := 74) (as := [.ref 130, .int (40 : Int32)]) (rest := []) rfl (Or.inr (Or.inl rfl)) (by decide) rfl rfl h
    have ts : (sgn M).toInt = t P.1.1 := sgn_t hT hC
    rcases open_en hS hT.1 g3 with ⟨q1, q2, q3⟩ | ⟨q1, q2, q3, q4⟩ | ⟨q1, q2, q3, q4⟩
    · exact absurd (ts.trans hp.1) q1
    · rw [q3] at h
      rcases eIf (mi := 77) (pc := 6) (len := 3) (t := 29) rfl rfl h with ⟨c4, h⟩ | ⟨c4, h⟩
      · skip
        replace h := eConst (mi := 77) (pc := 29) (len := 1) (v := 0) rfl h
        obtain ⟨e1, e2⟩ := eRetI (mi := 77) (pc := 30) (len := 1) rfl h
        rw [e2]
        have f := fail_ok (k := 5) (c := (2, 0, 0, P)) hS hT hC (by decide) (by decide) (Rch.go (sP_br6 hp.1 (by rw [← hC.2.1]; exact q2)) Rch.rf)
        rw [← q4] at f
        exact ⟨f.1, f.2.1, Or.inr ⟨e1, f.2.2⟩⟩
      · exact absurd c4 (by decide)
    · rw [q3] at h
      have hA : CQ M N2 ∧ CT0 N2 t N ∧ CR N2 (pAdv (pOpn (pPush P 13631488) 1)) sh N (z + 1) ∧ SM M N2 := by rw [q4]; exact open_ok hS hT hC (by rw [hp.1]; decide) q2
      have s1 : sm t (2, 0, 0, P) = (2, 0, 0, pAdv (pOpn (pPush P 13631488) 1)) := sP_brk hp.1 (by rw [← hC.2.1]; exact q2)
      have tp2 : pTop (pAdv (pOpn (pPush P 13631488) 1)) = 13 := pTop_push (P := P) (w := 13) (by decide)
      rcases eIf (mi := 77) (pc := 6) (len := 3) (t := 29) rfl rfl h with ⟨c5, h⟩ | ⟨c5, h⟩
      · exact absurd c5 (by decide)
      · skip
        replace h := eAload (mi := 77) (pc := 9) (len := 1) (i := 0) rfl rfl h
        obtain ⟨r6, N7, g8, h⟩ := eCall (mi := 77) (pc := 10) (len := 3) (j := 78) (as := [.ref 130]) (rest := []) rfl (Or.inr (Or.inl rfl)) (by decide) rfl rfl h
        obtain ⟨hQ3, hT3, hR3⟩ := hK n (Nat.lt_succ_self n) _ _ _ _ t N sh (z + 1) (pAdv (pOpn (pPush P 13631488) 1)) hA.1.1 hA.2.1 hA.2.2.1 (by show 1 ≤ P.1.2.2.2 + 1; omega) tp2 g8
        rcases hR3 with ⟨P3, er, hr3, hC3, hF3, eO3, eW3, hk3⟩ | ⟨er, hB3⟩
        · rw [er] at h
          rcases eIf (mi := 77) (pc := 13) (len := 3) (t := 29) rfl rfl h with ⟨c9, h⟩ | ⟨c9, h⟩
          · exact absurd c9 (by decide)
          · skip
            replace h := eAload (mi := 77) (pc := 16) (len := 1) (i := 0) rfl rfl h
            replace h := eConst (mi := 77) (pc := 17) (len := 2) (v := 41) rfl h
            obtain ⟨r10, N11, g12, h⟩ := eCall (mi := 77) (pc := 19) (len := 3) (j := 75) (as := [.ref 130, .int (41 : Int32)]) (rest := []) rfl (Or.inr (Or.inl rfl)) (by decide) rfl rfl h
            have W3 : P3.1.2.2.2 = P.1.2.2.2 + 1 := eW3
            have O3 : P3.1.2.1 = P.1.2.1 + 1 := eO3
            have tp3 : pTop P3 = 13 := (pTop_eq hF3 eW3).trans tp2
            have hr5 := Rch.go s1 hr3
            have s0 : 0 ≤ sh := hC.2.2.2.1.1
            have hF2 := (FR.rf (M := M) (P := P) (sh := sh)).st (R := pAdv (pOpn (pPush P 13631488) 1)) hA.2.2.2 rfl rfl (Nat.le_succ _) (fun k hk => by show pUp P.2.2 P.1.2.2.2 _ k = P.2.2 k; unfold pUp; rw [if_neg (by omega)])
            have ts3 : (sgn N7).toInt = t P3.1.1 := sgn_t hT3 hC3
            rcases close_en hQ3.1 hT3.1 g12 with ⟨q5, q6, q7⟩ | ⟨q5, q6, q7⟩
            · rw [q6] at h
              rcases eIf (mi := 77) (pc := 22) (len := 3) (t := 29) rfl rfl h with ⟨c13, h⟩ | ⟨c13, h⟩
              · skip
                replace h := eConst (mi := 77) (pc := 29) (len := 1) (v := 0) rfl h
                obtain ⟨e1, e2⟩ := eRetI (mi := 77) (pc := 30) (len := 1) rfl h
                rw [e2]
                have f := fail_ok (k := 1) (c := (2, 0, 0, P)) hQ3.1 hT3 hC3 (by decide) (by decide) (hr5.tr (Rch.go (sQ_bad tp3 (fun q => q5 (ts3.trans q)) hk3.1 hk3.2) Rch.rf))
                rw [← q7] at f
                exact ⟨(hA.1.tr hQ3).tr f.1, f.2.1, Or.inr ⟨e1, f.2.2⟩⟩
              · exact absurd c13 (by decide)
            · rw [q6] at h
              rcases eIf (mi := 77) (pc := 22) (len := 3) (t := 29) rfl rfl h with ⟨c14, h⟩ | ⟨c14, h⟩
              · exact absurd c14 (by decide)
              · skip
                replace h := eConst (mi := 77) (pc := 25) (len := 1) (v := 1) rfl h
                replace h := eGoto (mi := 77) (pc := 26) (len := 3) (t := 30) rfl rfl h
                obtain ⟨e1, e2⟩ := eRetI (mi := 77) (pc := 30) (len := 1) rfl h
                rw [e2]
                have t41 : t P3.1.1 = 41 := ts3.symm.trans q5
                have f := close_ok hQ3.1 hT3 hC3 (by rw [t41]; decide) (by have := hC.2.2.2.1; omega)
                rw [← q7] at f
                have hF4 := (hF2.tr s0 hF3).st (R := pAdv (pOpn (pPop P3) (-1))) f.2.2.2 rfl rfl (by show P.1.2.2.2 ≤ P3.1.2.2.2 - 1; omega) (fun _ _ => rfl)
                refine ⟨(hA.1.tr hQ3).tr f.1, f.2.1, Or.inl ⟨pAdv (pOpn (pPop P3) (-1)), e1, hr5.tr (Rch.go (sQ_shut tp3 t41 (by omega)) Rch.rf), f.2.2.1.le hC.2.2.2.1.2.2.2 (by omega), hF4, ?_, ?_, True.intro⟩⟩
                · show P3.1.2.1 + -1 = P.1.2.1
                  omega
                · show P3.1.2.2.2 - 1 = P.1.2.2.2
                  omega
        · rw [er] at h
          rcases eIf (mi := 77) (pc := 13) (len := 3) (t := 29) rfl rfl h with ⟨c15, h⟩ | ⟨c15, h⟩
          · skip
            replace h := eConst (mi := 77) (pc := 29) (len := 1) (v := 0) rfl h
            obtain ⟨e1, e2⟩ := eRetI (mi := 77) (pc := 30) (len := 1) rfl h
            rw [e2]
            exact ⟨hA.1.tr hQ3, hT3, Or.inr ⟨e1, CB.pre (Rch.go s1 Rch.rf) hB3⟩⟩
          · exact absurd c15 (by decide)

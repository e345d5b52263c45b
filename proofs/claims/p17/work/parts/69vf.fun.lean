/-! the class's reader against the machine: factors, products, sums by induction on the fuel (printed by fn8.py) -/
theorem factor_ok : ∀ (n : Nat), (∀ m, m < n → KU m) → KF n := by
  intro n hK d M r M1 t N sh z b h0 P hS hT hC hb0 _ h
  cases n with
  | zero => exact (En.zero (mi := 85) (pc := 0) (len := 1) rfl h).elim
  | succ n =>
    replace h := eAloadS (mi := 85) (pc := 0) (len := 1) (i := 0) rfl rfl h
    replace h := eCallP (mi := 85) (pc := 1) (len := 3) (j := 73) (as := [.ref 130]) (rest := []) rfl (Or.inr (Or.inl rfl)) (by decide) rfl rfl (fun _ _ _ _ g => sgn_en hS hT.1 g) h
    have ts : (sgn M).toInt = t P.1.1 := sgn_t hT hC
    replace h := eIstore (mi := 85) (pc := 4) (len := 1) (i := 1) rfl (by decide) h
    replace h := eIload (mi := 85) (pc := 5) (len := 1) (i := 1) rfl rfl h
    replace h := eConst (mi := 85) (pc := 6) (len := 2) (v := 91) rfl h
    rcases eIc (mi := 85) (pc := 8) (len := 3) (t := 42) rfl rfl h with ⟨c1, h⟩ | ⟨c1, h⟩
    · replace c1 : ¬ (sgn M).toInt = 91 := mC_ne.1 c1
      replace h := eIload (mi := 85) (pc := 42) (len := 1) (i := 1) rfl rfl h
      replace h := eCallP (mi := 85) (pc := 43) (len := 3) (j := 87) (as := [.int (sgn M)]) (rest := []) rfl (Or.inl rfl) (by decide) rfl rfl (fun _ _ _ _ g => bDig_en hS g) h
      rcases eIf (mi := 85) (pc := 46) (len := 3) (t := 54) rfl rfl h with ⟨c2, h⟩ | ⟨c2, h⟩
      · replace c2 : bDig (sgn M) = false := mB_eq.1 c2
        replace h := eIload (mi := 85) (pc := 54) (len := 1) (i := 1) rfl rfl h
        replace h := eConst (mi := 85) (pc := 55) (len := 1) (v := (-1)) rfl h
        rcases eIc (mi := 85) (pc := 56) (len := 3) (t := 69) rfl rfl h with ⟨c3, h⟩ | ⟨c3, h⟩
        · replace c3 : (sgn M).toInt = (-1) := mC_eq.1 c3
          replace h := eAload (mi := 85) (pc := 69) (len := 1) (i := 0) rfl rfl h
          replace h := eConst (mi := 85) (pc := 70) (len := 1) (v := 1) rfl h
          obtain ⟨r4, N5, g6, h⟩ := eCall (mi := 85) (pc := 71) (len := 3) (j := 72) (as := [.ref 130, .int (1 : Int32)]) (rest := []) rfl (Or.inr (Or.inl rfl)) (by decide) rfl rfl h
          obtain ⟨q7, q8⟩ := fail_en hS g6
          rw [q7] at h
          have eN5 := q8
          have hS9 : Sh N5 := by rw [eN5]; exact hS.put (by decide) (by decide) rfl
          obtain ⟨e1, e2⟩ := eRetI (mi := 85) (pc := 74) (len := 1) rfl h
          have n91 : ¬ t P.1.1 = 91 := fun q => c1 (ts.trans q)
          have hd : cDig (t P.1.1) = false := by rw [← ts, ← bDig_c]; exact c2
          have b9 := hT.2.2.2.2.2 P.1.1
          have hf : cFact (t P.1.1) = -1 := by rw [← ts, show (sgn M).toInt = -1 from c3]; rfl
          have f := fail_ok (k := 1) (c := (0, b, h0, P)) hS hT hC (by decide) (by decide) (Rch.go (sF_bad n91 hd hf) Rch.rf)
          rw [e2, eN5]
          exact ⟨f.1, f.2.1, Or.inr ⟨e1, f.2.2⟩⟩
        · replace c3 : ¬ (sgn M).toInt = (-1) := mC_eq.2 c3
          replace h := eLdcS (mi := 85) (pc := 59) (len := 2) (j := 0) rfl h
          replace h := eIload (mi := 85) (pc := 61) (len := 1) (i := 1) rfl rfl h
          replace h := eI2c (mi := 85) (pc := 62) (len := 1) rfl h
          replace h := eIdx (mi := 85) (pc := 63) (len := 3) rfl h
          rcases eIf (mi := 85) (pc := 66) (len := 3) (t := 75) rfl rfl h with ⟨c10, h⟩ | ⟨c10, h⟩
          · replace c10 : ¬ (mIxOf (((sgn M)).toUInt32 % 65536).toInt32).toInt < 0 := mC_ge.1 c10
            replace h := eAload (mi := 85) (pc := 75) (len := 1) (i := 0) rfl rfl h
            replace h := eDupR (mi := 85) (pc := 76) (len := 1) rfl h
            replace h := eGetI (a := 130) (j := 503) hS (by decide) (by decide) rfl (mi := 85) (pc := 77) (len := 3) rfl h
            replace h := eConst (mi := 85) (pc := 80) (len := 1) (v := 1) rfl h
            replace h := eAdd (mi := 85) (pc := 81) (len := 1) rfl h
            obtain ⟨N11, eN11⟩ : ∃ X_, X_ = mPut M 130 3 (.int ((iv M 130 3) + (1 : Int32))) := ⟨_, rfl⟩
            replace h := ePutE (a := 130) (f := 3) (N := N11) rfl eN11 (mi := 85) (pc := 82) (len := 3) (j := 503) rfl h
            have hS12 : Sh N11 := by rw [eN11]; exact hS.put (by decide) (by decide) rfl
            have nt : ¬ t P.1.1 = -1 := fun q => c3 (ts.trans q)
            have b9 := hT.2.2.2.2.2 P.1.1
            have hf : ¬ cFact (t P.1.1) = -1 := by
              intro q
              have q2 : ¬ (mIxOf ((sgn M).toUInt32 % 65536).toInt32).toInt < 0 := c10
              rw [i2c_lo (by omega) (by omega)] at q2
              exact q2 ((ix_fact (by omega) (by omega)).mpr (by rw [ts]; exact q))
            have ad := adv_ok hS hT hC nt
            rw [← eN11] at ad
            have hF1 := (FR.rf (M := M) (P := P) (sh := sh)).st (R := pAdv P) ad.2.2.2 rfl rfl (Nat.le_refl _) (fun _ _ => rfl)
            have fe := fact_enc (sh := sh) b9.1 b9.2 hf
            have z0 := hC.2.2.2.1.2.2.2
            replace h := eAload (mi := 85) (pc := 85) (len := 1) (i := 0) rfl rfl h
            replace h := eGetR (a := 130) (j := 500) (g := 131) ad.1.1 (by decide) (by decide) rfl rfl rfl (mi := 85) (pc := 86) (len := 3) rfl h
            replace h := eConst (mi := 85) (pc := 89) (len := 2) (v := 97) rfl h
            replace h := eIload (mi := 85) (pc := 91) (len := 1) (i := 1) rfl rfl h
            replace h := eConst (mi := 85) (pc := 92) (len := 2) (v := 97) rfl h
            replace h := eSub (mi := 85) (pc := 94) (len := 1) rfl h
            obtain ⟨r13, N14, g15, h⟩ := eCall (mi := 85) (pc := 95) (len := 3) (j := 60) (as := [.ref 131, .int (97 : Int32), .int ((sgn M) - (97 : Int32))]) (rest := []) rfl (Or.inr (Or.inl rfl)) (by decide) rfl rfl h
            have sg97 : (sgn M - (97 : Int32)).toInt = t P.1.1 - 97 := by rw [i32_sub (by rw [ts]; show -2147483648 ≤ t P.1.1 - 97; omega) (by rw [ts]; show t P.1.1 - 97 ≤ 2147483647; omega), ts]; rfl
            have ev : (stepV (97 : Int32) ((sgn M) - (97 : Int32))).toInt = encC sh (1048576 + cFact (t P.1.1)) := by rw [stepV_t (c := 97) (v := sgn M - (97 : Int32)) (a := 97) (by decide) (by decide) (by rw [sg97]; omega) (by rw [sg97]; omega), sg97, fe.1]; omega
            obtain ⟨l160, hQ4, hT4, hC4, hF4, ei4⟩ := emit_ok (z := z) ad.1.1 ad.2.1 ad.2.2.1 z0 ev
            obtain ⟨q4, eM4⟩ := step_en ad.1.1 l160 g15
            rw [q4, eM4] at h
            replace h := ePopI (mi := 85) (pc := 98) (len := 1) rfl h
            replace h := eConst (mi := 85) (pc := 99) (len := 1) (v := 1) rfl h
            obtain ⟨e1, e2⟩ := eRetI (mi := 85) (pc := 100) (len := 1) rfl h
            have n91 : ¬ t P.1.1 = 91 := fun q => c1 (ts.trans q)
            have hd : cDig (t P.1.1) = false := by rw [← ts, ← bDig_c]; exact c2
            have b9 := hT.2.2.2.2.2 P.1.1
            rw [e2]
            exact ⟨ad.1.tr hQ4, hT4, Or.inl ⟨pAdv (pEm P (1048576 + cFact (t P.1.1))), e1, Rch.go (sF_let n91 hd hf) Rch.rf, hC4, hF1.tr hC.2.2.2.1.1 hF4, rfl, rfl, True.intro⟩⟩
          · replace c10 : (mIxOf (((sgn M)).toUInt32 % 65536).toInt32).toInt < 0 := mC_ge.2 c10
            replace h := eAload (mi := 85) (pc := 69) (len := 1) (i := 0) rfl rfl h
            replace h := eConst (mi := 85) (pc := 70) (len := 1) (v := 1) rfl h
            obtain ⟨r16, N17, g18, h⟩ := eCall (mi := 85) (pc := 71) (len := 3) (j := 72) (as := [.ref 130, .int (1 : Int32)]) (rest := []) rfl (Or.inr (Or.inl rfl)) (by decide) rfl rfl h
            obtain ⟨q19, q20⟩ := fail_en hS g18
            rw [q19] at h
            have eN17 := q20
            have hS21 : Sh N17 := by rw [eN17]; exact hS.put (by decide) (by decide) rfl
            obtain ⟨e1, e2⟩ := eRetI (mi := 85) (pc := 74) (len := 1) rfl h
            have n91 : ¬ t P.1.1 = 91 := fun q => c1 (ts.trans q)
            have hd : cDig (t P.1.1) = false := by rw [← ts, ← bDig_c]; exact c2
            have b9 := hT.2.2.2.2.2 P.1.1
            have nt : ¬ t P.1.1 = -1 := fun q => c3 (ts.trans q)
            have hf : cFact (t P.1.1) = -1 := by
              have q : (mIxOf ((sgn M).toUInt32 % 65536).toInt32).toInt < 0 := c10
              rw [i2c_lo (by omega) (by omega)] at q
              rw [← ts]
              exact (ix_fact (by omega) (by omega)).mp q
            have f := fail_ok (k := 1) (c := (0, b, h0, P)) hS hT hC (by decide) (by decide) (Rch.go (sF_bad n91 hd hf) Rch.rf)
            rw [e2, eN17]
            exact ⟨f.1, f.2.1, Or.inr ⟨e1, f.2.2⟩⟩
      · replace c2 : bDig (sgn M) = true := mB_eq.2 c2
        replace h := eAload (mi := 85) (pc := 49) (len := 1) (i := 0) rfl rfl h
        obtain ⟨r22, N23, g24, h⟩ := eCall (mi := 85) (pc := 50) (len := 3) (j := 86) (as := [.ref 130]) (rest := []) rfl (Or.inr (Or.inl rfl)) (by decide) rfl rfl h
        have hd : cDig (t P.1.1) = true := by rw [← ts, ← bDig_c]; exact c2
        obtain ⟨hQ3, hT3, hR3⟩ := num_ok (b := b) (h0 := h0) hS hT hC hd g24
        rcases hR3 with ⟨P3, er, hR3⟩ | ⟨er, hB3⟩
        · rw [er] at h
          obtain ⟨e1, e2⟩ := eRetI (mi := 85) (pc := 53) (len := 1) rfl h
          rw [e2]
          exact ⟨hQ3, hT3, Or.inl ⟨P3, e1, hR3⟩⟩
        · rw [er] at h
          obtain ⟨e1, e2⟩ := eRetI (mi := 85) (pc := 53) (len := 1) rfl h
          rw [e2]
          exact ⟨hQ3, hT3, Or.inr ⟨e1, hB3⟩⟩
    · replace c1 : (sgn M).toInt = 91 := mC_ne.2 c1
      have hb : t P.1.1 = 91 := ts.symm.trans c1
      replace h := eAload (mi := 85) (pc := 11) (len := 1) (i := 0) rfl rfl h
      replace h := eConst (mi := 85) (pc := 12) (len := 2) (v := 91) rfl h
      obtain ⟨r25, N26, g27, h⟩ := eCall (mi := 85) (pc := 14) (len := 3) (j := 74) (as := [.ref 130, .int (91 : Int32)]) (rest := []) rfl (Or.inr (Or.inl rfl)) (by decide) rfl rfl h
      rcases open_en hS hT.1 g27 with ⟨q1, q2, q3⟩ | ⟨q1, q2, q3, q4⟩ | ⟨q1, q2, q3, q4⟩
      · exact absurd (ts.trans hb) q1
      · rw [q3] at h
        rcases eIf (mi := 85) (pc := 17) (len := 3) (t := 40) rfl rfl h with ⟨c28, h⟩ | ⟨c28, h⟩
        · skip
          replace h := eConst (mi := 85) (pc := 40) (len := 1) (v := 0) rfl h
          obtain ⟨e1, e2⟩ := eRetI (mi := 85) (pc := 41) (len := 1) rfl h
          rw [e2]
          have f := fail_ok (k := 5) (c := (0, b, h0, P)) hS hT hC (by decide) (by decide) (Rch.go (sF_sev hb (by rw [← hC.2.1]; exact q2)) Rch.rf)
          rw [← q4] at f
          exact ⟨f.1, f.2.1, Or.inr ⟨e1, f.2.2⟩⟩
        · exact absurd c28 (by decide)
      · rw [q3] at h
        have hA : CQ M N26 ∧ CT0 N26 t N ∧ CR N26 (pAdv (pOpn (pPush P 14680064) 1)) sh N (z + 1) ∧ SM M N26 := by rw [q4]; exact open_ok hS hT hC (by rw [hb]; decide) q2
        rcases eIf (mi := 85) (pc := 17) (len := 3) (t := 40) rfl rfl h with ⟨c29, h⟩ | ⟨c29, h⟩
        · exact absurd c29 (by decide)
        · skip
          replace h := eAload (mi := 85) (pc := 20) (len := 1) (i := 0) rfl rfl h
          obtain ⟨r30, N31, g32, h⟩ := eCall (mi := 85) (pc := 21) (len := 3) (j := 83) (as := [.ref 130]) (rest := []) rfl (Or.inr (Or.inl rfl)) (by decide) rfl rfl h
          have h6 : ¬ P.1.2.1 = 6 := by rw [← hC.2.1]; exact q2
          have s1 : sm t (0, b, h0, P) = (0, b, h0, pAdv (pOpn (pPush P 14680064) 1)) := sF_opn hb h6
          have tp2 : pTop (pAdv (pOpn (pPush P 14680064) 1)) = 14 := pTop_push (P := P) (w := 14) (by decide)
          obtain ⟨hQ3, hT3, hR3⟩ := hK n (Nat.lt_succ_self n) _ _ _ _ t N sh (z + 1) b h0 (pAdv (pOpn (pPush P 14680064) 1)) hA.1.1 hA.2.1 hA.2.2.1 (by show b ≤ P.1.2.2.2 + 1; omega) (by show ¬ (2 ≤ pTop _ ∧ pTop _ ≤ 6); rw [tp2]; decide) g32
          rcases hR3 with ⟨P3, er, hr3, hC3, hF3, eO3, eW3, hk3⟩ | ⟨er, hB3⟩
          · rw [er] at h
            rcases eIf (mi := 85) (pc := 24) (len := 3) (t := 40) rfl rfl h with ⟨c33, h⟩ | ⟨c33, h⟩
            · exact absurd c33 (by decide)
            · skip
              replace h := eAload (mi := 85) (pc := 27) (len := 1) (i := 0) rfl rfl h
              replace h := eConst (mi := 85) (pc := 28) (len := 2) (v := 93) rfl h
              obtain ⟨r34, N35, g36, h⟩ := eCall (mi := 85) (pc := 30) (len := 3) (j := 75) (as := [.ref 130, .int (93 : Int32)]) (rest := []) rfl (Or.inr (Or.inl rfl)) (by decide) rfl rfl h
              have W3 : P3.1.2.2.2 = P.1.2.2.2 + 1 := eW3
              have O3 : P3.1.2.1 = P.1.2.1 + 1 := eO3
              have w3 : P3.2.2 P.1.2.2.2 = 14680064 := by rw [hF3.2.1 _ (show P.1.2.2.2 < P.1.2.2.2 + 1 by omega)]; show pUp P.2.2 P.1.2.2.2 _ P.1.2.2.2 = _; unfold pUp; rw [if_pos rfl]
              have tp3 : pTop P3 = 14 := (pTop_eq hF3 eW3).trans tp2
              have hh : pHas P3 b P3.1.2.2.2 = true := pHas_at (w := 0) _ P.1.2.2.2 (by omega) hb0 (by rw [w3]; decide)
              have ts3 : (sgn N31).toInt = t P3.1.1 := sgn_t hT3 hC3
              have hr5 := Rch.go s1 hr3
              rcases close_en hQ3.1 hT3.1 g36 with ⟨q5, q6, q7⟩ | ⟨q5, q6, q7⟩
              · rw [q6] at h
                rcases eIf (mi := 85) (pc := 33) (len := 3) (t := 40) rfl rfl h with ⟨c37, h⟩ | ⟨c37, h⟩
                · skip
                  replace h := eConst (mi := 85) (pc := 40) (len := 1) (v := 0) rfl h
                  obtain ⟨e1, e2⟩ := eRetI (mi := 85) (pc := 41) (len := 1) rfl h
                  rw [e2]
                  have f := fail_ok (k := 1) (c := (0, b, h0, P)) hQ3.1 hT3 hC3 (by decide) (by decide) (hr5.tr (Rch.go (sA_bad (by rw [tp3]; decide) hk3 hh (fun q => q5 (ts3.trans q))) Rch.rf))
                  rw [← q7] at f
                  exact ⟨(hA.1.tr hQ3).tr f.1, f.2.1, Or.inr ⟨e1, f.2.2⟩⟩
                · exact absurd c37 (by decide)
              · rw [q6] at h
                rcases eIf (mi := 85) (pc := 33) (len := 3) (t := 40) rfl rfl h with ⟨c38, h⟩ | ⟨c38, h⟩
                · exact absurd c38 (by decide)
                · skip
                  replace h := eConst (mi := 85) (pc := 36) (len := 1) (v := 1) rfl h
                  replace h := eGoto (mi := 85) (pc := 37) (len := 3) (t := 41) rfl rfl h
                  obtain ⟨e1, e2⟩ := eRetI (mi := 85) (pc := 41) (len := 1) rfl h
                  rw [e2]
                  have t93 : t P3.1.1 = 93 := ts3.symm.trans q5
                  have f := close_ok hQ3.1 hT3 hC3 (by rw [t93]; decide) (by have := hC.2.2.2.1; omega)
                  rw [← q7] at f
                  have hF2 := (FR.rf (M := M) (P := P) (sh := sh)).st (R := pAdv (pOpn (pPush P 14680064) 1)) hA.2.2.2 rfl rfl (Nat.le_succ _) (fun k hk => by show pUp P.2.2 P.1.2.2.2 _ k = P.2.2 k; unfold pUp; rw [if_neg (by omega)])
                  have s0 : 0 ≤ sh := hC.2.2.2.1.1
                  have hF4 := (hF2.tr s0 hF3).st (R := pAdv (pOpn (pPop P3) (-1))) f.2.2.2 rfl rfl (by show P.1.2.2.2 ≤ P3.1.2.2.2 - 1; omega) (fun _ _ => rfl)
                  refine ⟨(hA.1.tr hQ3).tr f.1, f.2.1, Or.inl ⟨pAdv (pOpn (pPop P3) (-1)), e1, hr5.tr (Rch.go (sA_shut (by rw [tp3]; decide) hk3 hh t93) Rch.rf), f.2.2.1.le hC.2.2.2.1.2.2.2 (by omega), hF4, ?_, ?_, True.intro⟩⟩
                  · show P3.1.2.1 + -1 = P.1.2.1
                    omega
                  · show P3.1.2.2.2 - 1 = P.1.2.2.2
                    omega
          · rw [er] at h
            rcases eIf (mi := 85) (pc := 24) (len := 3) (t := 40) rfl rfl h with ⟨c39, h⟩ | ⟨c39, h⟩
            · skip
              replace h := eConst (mi := 85) (pc := 40) (len := 1) (v := 0) rfl h
              obtain ⟨e1, e2⟩ := eRetI (mi := 85) (pc := 41) (len := 1) rfl h
              rw [e2]
              exact ⟨hA.1.tr hQ3, hT3, Or.inr ⟨e1, CB.pre (Rch.go s1 Rch.rf) hB3⟩⟩
            · exact absurd c39 (by decide)
theorem pro_ok : ∀ (n : Nat), (∀ m, m ≤ n → KF m) → KP n := by
  intro n hK d M r M1 t N sh z b h0 P hS hT hC hb0 hp h
  replace h := eAload (mi := 84) (pc := 0) (len := 1) (i := 0) rfl rfl h
  obtain ⟨r1, N2, g3, h⟩ := eCall (mi := 84) (pc := 1) (len := 3) (j := 85) (as := [.ref 130]) (rest := []) rfl (Or.inr (Or.inl rfl)) (by decide) rfl rfl h
  obtain ⟨hQ3, hT3, hR3⟩ := hK n (Nat.le_refl n) _ _ _ _ t N sh z b h0 P hS hT hC hb0 True.intro g3
  rcases hR3 with ⟨P3, er, hr3, hC3, hF3, eO3, eW3, hk3⟩ | ⟨er, hB3⟩
  · rw [er] at h
    replace h := eIstore (mi := 84) (pc := 4) (len := 1) (i := 1) rfl (by decide) h
    exact pro_lp n hK _ _ M _ _ _ t N sh z b h0 P P3 rfl rfl hQ3 hT3 hC3 hF3 eO3 eW3 (by omega) hr3 (by rw [pTop_eq hF3 eW3]; exact hp) True.intro h
  · rw [er] at h
    replace h := eIstore (mi := 84) (pc := 4) (len := 1) (i := 1) rfl (by decide) h
    replace h := eIload (mi := 84) (pc := 5) (len := 1) (i := 1) rfl rfl h
    rcases eIf (mi := 84) (pc := 6) (len := 3) (t := 101) rfl rfl h with ⟨c4, h⟩ | ⟨c4, h⟩
    · skip
      replace h := eIload (mi := 84) (pc := 101) (len := 1) (i := 1) rfl rfl h
      obtain ⟨e1, e2⟩ := eRetI (mi := 84) (pc := 102) (len := 1) rfl h
      rw [e2]
      exact ⟨hQ3, hT3, Or.inr ⟨e1, hB3⟩⟩
    · exact absurd c4 (by decide)
theorem sum_ok : ∀ (n : Nat), (∀ m, m ≤ n → KP m) → KU n := by
  intro n hK d M r M1 t N sh z b h0 P hS hT hC hb0 hp h
  replace h := eAload (mi := 83) (pc := 0) (len := 1) (i := 0) rfl rfl h
  obtain ⟨r1, N2, g3, h⟩ := eCall (mi := 83) (pc := 1) (len := 3) (j := 84) (as := [.ref 130]) (rest := []) rfl (Or.inr (Or.inl rfl)) (by decide) rfl rfl h
  obtain ⟨hQ3, hT3, hR3⟩ := hK n (Nat.le_refl n) _ _ _ _ t N sh z b h0 P hS hT hC hb0 (by omega) g3
  rcases hR3 with ⟨P3, er, hr3, hC3, hF3, eO3, eW3, hk3⟩ | ⟨er, hB3⟩
  · rw [er] at h
    replace h := eIstore (mi := 83) (pc := 4) (len := 1) (i := 1) rfl (by decide) h
    exact sum_lp n hK _ _ M _ _ _ t N sh z b h0 P P3 rfl rfl hQ3 hT3 hC3 hF3 eO3 eW3 (by omega) hr3 (by rw [pTop_eq hF3 eW3]; exact hp) hk3 h
  · rw [er] at h
    replace h := eIstore (mi := 83) (pc := 4) (len := 1) (i := 1) rfl (by decide) h
    replace h := eIload (mi := 83) (pc := 5) (len := 1) (i := 1) rfl rfl h
    rcases eIf (mi := 83) (pc := 6) (len := 3) (t := 87) rfl rfl h with ⟨c4, h⟩ | ⟨c4, h⟩
    · skip
      replace h := eIload (mi := 83) (pc := 87) (len := 1) (i := 1) rfl rfl h
      obtain ⟨e1, e2⟩ := eRetI (mi := 83) (pc := 88) (len := 1) rfl h
      rw [e2]
      exact ⟨hQ3, hT3, Or.inr ⟨e1, hB3⟩⟩
    · exact absurd c4 (by decide)
theorem all_ks : ∀ (n m : Nat), m ≤ n → KF m ∧ KP m ∧ KU m := by
  intro n
  induction n with
  | zero =>
    intro m hm
    have e : m = 0 := by omega
    subst e
    have a : KF 0 := factor_ok 0 (fun m hm => absurd hm (Nat.not_lt_zero m))
    have b : KP 0 := pro_ok 0 (fun m hm => by have e : m = 0 := (by omega); subst e; exact a)
    exact ⟨a, b, sum_ok 0 (fun m hm => by have e : m = 0 := (by omega); subst e; exact b)⟩
  | succ n ih =>
    have a : ∀ m, m ≤ n + 1 → KF m := fun m hm => factor_ok m (fun k hk => (ih k (by omega)).2.2)
    have b : ∀ m, m ≤ n + 1 → KP m := fun m hm => pro_ok m (fun k hk => a k (by omega))
    exact fun m hm => ⟨a m hm, b m hm, sum_ok m (fun k hk => b k (by omega))⟩
theorem sum_all (n : Nat) : KU n := (all_ks n n (Nat.le_refl n)).2.2

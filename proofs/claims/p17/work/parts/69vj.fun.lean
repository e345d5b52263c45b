/-! the class's reader against the machine: parts, conditions (printed by fn12.py) -/
theorem aim_any {v : Int32} {n d : Nat} {M : Mem} {r : Option Value} {M1 : Mem} {t : Int → Int} {N : Int} (hS : Sh M) (hT : CT0 M t N) (h : En n d 61 0 (lv_args 0 [.ref 131, .int v]) [] M r M1) : r = none ∧ CQ M M1 ∧ CT0 M1 t N ∧ iv M1 130 5 = iv M 130 5 := by
  replace h := eIload (mi := 61) (pc := 0) (len := 1) (i := 1) rfl rfl h
  rcases eIf (mi := 61) (pc := 1) (len := 3) (t := 32) rfl rfl h with ⟨c1, h⟩ | ⟨c1, h⟩
  · replace c1 : v.toInt < 0 := mC_lt.1 c1
    obtain ⟨e1, e2⟩ := eRetV (mi := 61) (pc := 32) (len := 1) rfl h
    rw [e2]
    exact ⟨e1, CQ.rf hS, hT, rfl⟩
  · replace c1 : ¬ v.toInt < 0 := mC_lt.2 c1
    replace h := eIload (mi := 61) (pc := 4) (len := 1) (i := 1) rfl rfl h
    replace h := eAload (mi := 61) (pc := 5) (len := 1) (i := 0) rfl rfl h
    replace h := eGetI (a := 131) (j := 401) hS (by decide) (by decide) rfl (mi := 61) (pc := 6) (len := 3) rfl h
    rcases eIc (mi := 61) (pc := 9) (len := 3) (t := 32) rfl rfl h with ⟨c2, h⟩ | ⟨c2, h⟩
    · replace c2 : ¬ v.toInt < (iv M 131 1).toInt := mC_ge.1 c2
      obtain ⟨e1, e2⟩ := eRetV (mi := 61) (pc := 32) (len := 1) rfl h
      rw [e2]
      exact ⟨e1, CQ.rf hS, hT, rfl⟩
    · replace c2 : v.toInt < (iv M 131 1).toInt := mC_ge.2 c2
      replace h := eAload (mi := 61) (pc := 12) (len := 1) (i := 0) rfl rfl h
      replace h := eGetR (a := 131) (j := 400) (g := 132) hS (by decide) (by decide) rfl rfl rfl (mi := 61) (pc := 13) (len := 3) rfl h
      replace h := eIload (mi := 61) (pc := 16) (len := 1) (i := 1) rfl rfl h
      replace h := eAload (mi := 61) (pc := 17) (len := 1) (i := 0) rfl rfl h
      replace h := eGetR (a := 131) (j := 400) (g := 132) hS (by decide) (by decide) rfl rfl rfl (mi := 61) (pc := 18) (len := 3) rfl h
      replace h := eIload (mi := 61) (pc := 21) (len := 1) (i := 1) rfl rfl h
      obtain ⟨b3, h⟩ := eIald (x := v) hS (a := 132) (by decide) (by decide) rfl (mi := 61) (pc := 22) (len := 1) rfl h
      replace h := eConst (mi := 61) (pc := 23) (len := 2) (v := (-1048576)) rfl h
      replace h := eAnd (mi := 61) (pc := 25) (len := 1) rfl h
      replace h := eAload (mi := 61) (pc := 26) (len := 1) (i := 0) rfl rfl h
      replace h := eGetI (a := 131) (j := 401) hS (by decide) (by decide) rfl (mi := 61) (pc := 27) (len := 3) rfl h
      replace h := eOr (mi := 61) (pc := 30) (len := 1) rfl h
      obtain ⟨N5, eN5⟩ : ∃ X_, X_ = mPut M 132 v.toInt.toNat (.int (((iv M 132 v.toInt.toNat) &&& ((-1048576) : Int32)) ||| (iv M 131 1))) := ⟨_, rfl⟩
      obtain ⟨b4, h⟩ := eIast (x := v) (N := N5) hS (a := 132) (by decide) (by decide) eN5 (mi := 61) (pc := 31) (len := 1) rfl h
      have hS6 : Sh N5 := by rw [eN5]; exact hS.put (by decide) (by decide) rfl
      obtain ⟨e1, e2⟩ := eRetV (mi := 61) (pc := 32) (len := 1) rfl h
      have q1 : CQ M N5 := by rw [eN5]; exact CQ.put hS (Or.inr (Or.inr rfl))
      have t1 : CT0 N5 t N := by rw [eN5]; exact hT.put hS (Or.inr (Or.inr rfl))
      rw [e2]
      exact ⟨e1, q1, t1, by rw [eN5, iv_put_ne (Or.inl (by decide))]⟩
theorem prt_lp : ∀ (n : Nat), (∀ m, m ≤ n → KPi m) → ∀ (d : Nat) (L : MLoc) (M0 M : Mem) (r : Option Value) (M1 : Mem) (t : Int → Int) (N sh z : Int) (P0 P : PS), mLd L 0 = some (.ref 130) → mLd L 1 = some (.int 1) → CQ M0 M → CT0 M t N → CR M P sh N z → FR M0 P0 M P sh → P.1.2.1 = P0.1.2.1 → P.1.2.2.2 = P0.1.2.2.2 → 1 ≤ P.1.2.2.2 → Rch t (2, 0, 0, P0) (4, 0, 0, P) → (pTop P = 12 ∨ pTop P = 13) → (True) → En n d 79 5 L [] M r M1 → CQ M0 M1 ∧ CT0 M1 t N ∧ ((∃ P', r = some (.int 1) ∧ Rch t (2, 0, 0, P0) (4, 0, 0, P') ∧ CR M1 P' sh N z ∧ FR M0 P0 M1 P' sh ∧ P'.1.2.1 = P0.1.2.1 ∧ P'.1.2.2.2 = P0.1.2.2.2 ∧ ¬ t P'.1.1 = 38) ∨ (r = some (.int 0) ∧ CB t (2, 0, 0, P0) M1)) := by
  intro n
  induction n with
  | zero => intro _ d L M0 M r M1 t N sh z P0 P _ _ _ _ _ _ _ _ _ _ _ _ h; exact (En.zero (mi := 79) (pc := 5) (len := 1) rfl h).elim
  | succ n ih =>
    intro hK d L M0 M r M1 t N sh z P0 P l0 l1 hQ hT hC hF eO eW hb hr ht hn h
    have hS := hQ.1
    replace h := eIloadS (mi := 79) (pc := 5) (len := 1) (i := 1) rfl l1 h
    rcases eIf (mi := 79) (pc := 6) (len := 3) (t := 71) rfl rfl h with ⟨c1, h⟩ | ⟨c1, h⟩
    · exact absurd c1 (by decide)
    · skip
      replace h := eAload (mi := 79) (pc := 9) (len := 1) (i := 0) rfl l0 h
      replace h := eGetI (a := 130) (j := 503) hS (by decide) (by decide) rfl (mi := 79) (pc := 10) (len := 3) rfl h
      replace h := eAload (mi := 79) (pc := 13) (len := 1) (i := 0) rfl l0 h
      replace h := eGetI (a := 130) (j := 502) hS (by decide) (by decide) rfl (mi := 79) (pc := 14) (len := 3) rfl h
      rcases eIc (mi := 79) (pc := 17) (len := 3) (t := 71) rfl rfl h with ⟨c2, h⟩ | ⟨c2, h⟩
      · replace c2 : ¬ (iv M 130 3).toInt < (iv M 130 2).toInt := mC_ge.1 c2
        replace h := eIload (mi := 79) (pc := 71) (len := 1) (i := 1) rfl l1 h
        obtain ⟨e1, e2⟩ := eRetI (mi := 79) (pc := 72) (len := 1) rfl h
        rw [e2]
        have q : t P.1.1 = -1 := hT.2.2.2.2.1 _ (by have q := c2; rw [hC.1, hT.2.1] at q; omega)
        exact ⟨hQ, hT, Or.inl ⟨P, e1, hr, hC, hF, eO, eW, by rw [q]; decide⟩⟩
      · replace c2 : (iv M 130 3).toInt < (iv M 130 2).toInt := mC_ge.2 c2
        replace h := eAload (mi := 79) (pc := 20) (len := 1) (i := 0) rfl l0 h
        replace h := eGetX (a := 130) (j := 501) (b := 128) (i := 1) hT.1 rfl (mi := 79) (pc := 21) (len := 3) rfl h
        replace h := eAload (mi := 79) (pc := 24) (len := 1) (i := 0) rfl l0 h
        replace h := eGetI (a := 130) (j := 503) hS (by decide) (by decide) rfl (mi := 79) (pc := 25) (len := 3) rfl h
        obtain ⟨b3, h⟩ := eIald (x := (iv M 130 3)) hS (a := 128) (by decide) (by decide) rfl (mi := 79) (pc := 28) (len := 1) rfl h
        replace h := eConst (mi := 79) (pc := 29) (len := 2) (v := 38) rfl h
        rcases eIc (mi := 79) (pc := 31) (len := 3) (t := 71) rfl rfl h with ⟨c4, h⟩ | ⟨c4, h⟩
        · replace c4 : ¬ (iv M 128 (iv M 130 3).toInt.toNat).toInt = 38 := mC_ne.1 c4
          replace h := eIload (mi := 79) (pc := 71) (len := 1) (i := 1) rfl l1 h
          obtain ⟨e1, e2⟩ := eRetI (mi := 79) (pc := 72) (len := 1) rfl h
          rw [e2]
          have lt : P.1.1 < N := by have q := c2; rw [hC.1, hT.2.1] at q; exact q
          have p0 : 0 ≤ P.1.1 := by have := hC.2.2.2; omega
          have ec : (iv M 128 (iv M 130 3).toInt.toNat).toInt = t P.1.1 := by rw [hC.1, ← hT.2.2.2.1 _ (by omega)]; congr 1; omega
          have eb := c4
          rw [ec] at eb
          exact ⟨hQ, hT, Or.inl ⟨P, e1, hr, hC, hF, eO, eW, eb⟩⟩
        · replace c4 : (iv M 128 (iv M 130 3).toInt.toNat).toInt = 38 := mC_ne.2 c4
          replace h := eAload (mi := 79) (pc := 34) (len := 1) (i := 0) rfl l0 h
          replace h := eDupR (mi := 79) (pc := 35) (len := 1) rfl h
          replace h := eGetI (a := 130) (j := 503) hS (by decide) (by decide) rfl (mi := 79) (pc := 36) (len := 3) rfl h
          replace h := eConst (mi := 79) (pc := 39) (len := 1) (v := 1) rfl h
          replace h := eAdd (mi := 79) (pc := 40) (len := 1) rfl h
          have lt : P.1.1 < N := by have q := c2; rw [hC.1, hT.2.1] at q; exact q
          have p0 : 0 ≤ P.1.1 := by have := hC.2.2.2; omega
          have ec : (iv M 128 (iv M 130 3).toInt.toNat).toInt = t P.1.1 := by rw [hC.1, ← hT.2.2.2.1 _ (by omega)]; congr 1; omega
          have eb := c4
          rw [ec] at eb
          obtain ⟨N5, eN5⟩ : ∃ X_, X_ = mPut M 130 3 (.int ((iv M 130 3) + (1 : Int32))) := ⟨_, rfl⟩
          replace h := ePutE (a := 130) (f := 3) (N := N5) rfl eN5 (mi := 79) (pc := 41) (len := 3) (j := 503) rfl h
          have hS6 : Sh N5 := by rw [eN5]; exact hS.put (by decide) (by decide) rfl
          have hA : CQ M N5 ∧ CT0 N5 t N ∧ CR N5 (pAdv (pPush P (11534336 + (P.1.2.2.1 : Int)))) sh N (z + 1) ∧ SM M N5 := by rw [eN5]; exact adv_ok hS hT hC (fun q => by have q : t P.1.1 = -1 := q; omega)
          have z0 := hC.2.2.2.1.2.2.2
          have k9 : (P.1.2.2.1 : Int) < 1048576 := by have q := hC.2.2.2; have := hT.2.2.1; omega
          replace h := eAload (mi := 79) (pc := 44) (len := 1) (i := 0) rfl l0 h
          replace h := eGetR (a := 130) (j := 500) (g := 131) hA.1.1 (by decide) (by decide) rfl rfl rfl (mi := 79) (pc := 45) (len := 3) rfl h
          replace h := eConst (mi := 79) (pc := 48) (len := 2) (v := 38) rfl h
          replace h := eConst (mi := 79) (pc := 50) (len := 1) (v := 0) rfl h
          obtain ⟨r7, N8, g9, h⟩ := eCall (mi := 79) (pc := 51) (len := 3) (j := 60) (as := [.ref 131, .int (38 : Int32), .int (0 : Int32)]) (rest := []) rfl (Or.inr (Or.inl rfl)) (by decide) rfl rfl h
          have ev : (stepV (38 : Int32) (0 : Int32)).toInt = encC sh (11534336) := rfl
          obtain ⟨l160, hQ4, hT4, hC4, hF4, ei4⟩ := emit_ok (z := z) hA.1.1 hA.2.1 hA.2.2.1 z0 ev
          obtain ⟨q4, eM4⟩ := step_en hA.1.1 l160 g9
          rw [q4, eM4] at h
          obtain ⟨N10, eN10⟩ : ∃ X_, X_ = (stepM N5 (38 : Int32) (0 : Int32)) := ⟨_, rfl⟩
          rw [← eN10] at h hQ4 hT4 hC4 hF4 ei4
          obtain ⟨jv, ejv⟩ : ∃ X_, X_ = iv N10 131 1 - 1 := ⟨_, rfl⟩
          rw [← ejv] at h ei4
          replace h := eIstore (mi := 79) (pc := 54) (len := 1) (i := 2) rfl (by decide) h
          replace h := eAload (mi := 79) (pc := 55) (len := 1) (i := 0) rfl (mLd_st1_ref (by decide) l0) h
          obtain ⟨r11, N12, g13, h⟩ := eCall (mi := 79) (pc := 56) (len := 3) (j := 80) (as := [.ref 130]) (rest := []) rfl (Or.inr (Or.inl rfl)) (by decide) rfl rfl h
          have tp2 : pTop (pEm (pAdv (pPush P (11534336 + (P.1.2.2.1 : Int)))) 11534336) = 11 := pTop_jmp (op := 11) k9 _
          obtain ⟨hQ5, hT5, hR5⟩ := hK n (Nat.le_succ n) _ _ _ _ t N sh z (pEm (pAdv (pPush P (11534336 + (P.1.2.2.1 : Int)))) 11534336) hQ4.1 hT4 hC4 (by show 1 ≤ P.1.2.2.2 + 1; omega) (by show 10 ≤ pTop _; rw [tp2]; decide) g13
          have s1 : sm t (4, 0, 0, P) = (2, 0, 0, (pEm (pAdv (pPush P (11534336 + (P.1.2.2.1 : Int)))) 11534336)) := sQ_38 ht eb
          rcases hR5 with ⟨P3, er, hr3, hC3, hF3, eO3, eW3, hk3⟩ | ⟨er, hB3⟩
          · rw [er] at h
            replace h := eIstore (mi := 79) (pc := 59) (len := 1) (i := 1) rfl (by decide) h
            replace h := eAload (mi := 79) (pc := 60) (len := 1) (i := 0) rfl (mLd_st1_ref (by decide) (mLd_st1_ref (by decide) l0)) h
            replace h := eGetR (a := 130) (j := 500) (g := 131) hQ5.1 (by decide) (by decide) rfl rfl rfl (mi := 79) (pc := 61) (len := 3) rfl h
            replace h := eIload (mi := 79) (pc := 64) (len := 1) (i := 2) rfl (mLd_st1_int (by decide) mLd_st1_i) h
            obtain ⟨r14, N15, g16, h⟩ := eCall (mi := 79) (pc := 65) (len := 3) (j := 61) (as := [.ref 131, .int jv]) (rest := []) rfl (Or.inr (Or.inl rfl)) (by decide) rfl rfl h
            have W3 : P3.1.2.2.2 = P.1.2.2.2 + 1 := eW3
            have s0 : 0 ≤ sh := hC.2.2.2.1.1
            have w3 : P3.2.2 (P3.1.2.2.2 - 1) = (11 : Nat) * 1048576 + ((P.1.2.2.1 : Nat) : Int) := by rw [W3, hF3.2.1 _ (show P.1.2.2.2 + 1 - 1 < P.1.2.2.2 + 1 by omega)]; show pUp P.2.2 P.1.2.2.2 _ (P.1.2.2.2 + 1 - 1) = _; unfold pUp; rw [if_pos (by omega)]; rfl
            have c3 : P.1.2.2.1 < P3.1.2.2.1 := hF3.2.2.1
            have d3 : P3.2.1 P.1.2.2.1 = (11 : Nat) * 1048576 := by rw [hF3.2.2.2.1 _ (show P.1.2.2.1 < P.1.2.2.1 + 1 by omega)]; show pUp P.2.1 P.1.2.2.1 _ P.1.2.2.1 = _; unfold pUp; rw [if_pos rfl]; rfl
            have hF2 := hF.st (R := (pAdv (pPush P (11534336 + (P.1.2.2.1 : Int))))) hA.2.2.2 rfl rfl (by show P0.1.2.2.2 ≤ P.1.2.2.2 + 1; omega) (fun k hk => by show pUp P.2.2 P.1.2.2.2 _ k = P.2.2 k; unfold pUp; rw [if_neg (by omega)])
            have hF5 := (hF2.tr s0 hF4).tr s0 hF3
            have jl := jland_ok (op := 11) (jd := P.1.2.2.1) (a := 38) (v := jv) (by decide) hQ5.1 hT5 hC3 hF5 hF.2.2.1 c3 d3 w3 (by omega) ei4
            obtain ⟨q6, eM6⟩ := aim_en hQ5.1 jl.1.1 jl.1.2 g16
            rw [q6] at h
            rw [← eM6] at jl
            replace h := eGoto (mi := 79) (pc := 68) (len := 3) (t := 5) rfl rfl h
            have t3 : pTop P3 = 11 := (pTop_eq hF3 eW3).trans tp2
            have hr6 := hr.tr (Rch.go s1 (hr3.tr (Rch.go (sE_on (by omega)) (Rch.go (sQ_and t3) Rch.rf))))
            have tq : pTop (pPop (pLand P3 (11 : Nat))) = pTop P := pTop_pop (P := P) (Q := P3) (v := 0) W3 (fun k hk => by rw [hF3.2.1 k (show k < P.1.2.2.2 + 1 by omega)]; show pUp P.2.2 P.1.2.2.2 _ k = P.2.2 k; unfold pUp; rw [if_neg (by omega)])
            refine ih (fun m hm => hK m (by omega)) _ _ M0 _ _ _ t N sh z P0 (pPop (pLand P3 (11 : Nat))) (mLd_st1_ref (by decide) (mLd_st1_ref (by decide) l0)) mLd_st1_i ((((hQ.tr hA.1).tr hQ4).tr hQ5).tr jl.2.1) jl.2.2.1 jl.2.2.2.1 jl.2.2.2.2 ?_ ?_ ?_ hr6 (by rw [tq]; exact ht) True.intro h
            · exact eO3.trans eO
            · show P3.1.2.2.2 - 1 = P0.1.2.2.2
              omega
            · show 1 ≤ P3.1.2.2.2 - 1
              omega
          · rw [er] at h
            replace h := eIstore (mi := 79) (pc := 59) (len := 1) (i := 1) rfl (by decide) h
            replace h := eAload (mi := 79) (pc := 60) (len := 1) (i := 0) rfl (mLd_st1_ref (by decide) (mLd_st1_ref (by decide) l0)) h
            replace h := eGetR (a := 130) (j := 500) (g := 131) hQ5.1 (by decide) (by decide) rfl rfl rfl (mi := 79) (pc := 61) (len := 3) rfl h
            replace h := eIload (mi := 79) (pc := 64) (len := 1) (i := 2) rfl (mLd_st1_int (by decide) mLd_st1_i) h
            obtain ⟨r17, N18, g19, h⟩ := eCall (mi := 79) (pc := 65) (len := 3) (j := 61) (as := [.ref 131, .int jv]) (rest := []) rfl (Or.inr (Or.inl rfl)) (by decide) rfl rfl h
            obtain ⟨q6, hQ6, hT6, e56⟩ := aim_any hQ5.1 hT5 g19
            rw [q6] at h
            replace h := eGoto (mi := 79) (pc := 68) (len := 3) (t := 5) rfl rfl h
            replace h := eIload (mi := 79) (pc := 5) (len := 1) (i := 1) rfl mLd_st1_i h
            rcases eIf (mi := 79) (pc := 6) (len := 3) (t := 71) rfl rfl h with ⟨c20, h⟩ | ⟨c20, h⟩
            · skip
              replace h := eIload (mi := 79) (pc := 71) (len := 1) (i := 1) rfl mLd_st1_i h
              obtain ⟨e1, e2⟩ := eRetI (mi := 79) (pc := 72) (len := 1) rfl h
              rw [e2]
              exact ⟨(((hQ.tr hA.1).tr hQ4).tr hQ5).tr hQ6, hT6, Or.inr ⟨e1, (CB.pre (hr.tr (Rch.go s1 Rch.rf)) hB3).st e56⟩⟩
            · exact absurd c20 (by decide)
theorem cnd_lp : ∀ (n : Nat), (∀ m, m ≤ n → KPa m) → ∀ (d : Nat) (L : MLoc) (M0 M : Mem) (r : Option Value) (M1 : Mem) (t : Int → Int) (N sh z : Int) (P0 P : PS), mLd L 0 = some (.ref 130) → mLd L 1 = some (.int 1) → CQ M0 M → CT0 M t N → CR M P sh N z → FR M0 P0 M P sh → P.1.2.1 = P0.1.2.1 → P.1.2.2.2 = P0.1.2.2.2 → 1 ≤ P.1.2.2.2 → Rch t (2, 0, 0, P0) (4, 0, 0, P) → (pTop P = 13) → (¬ t P.1.1 = 38) → En n d 78 5 L [] M r M1 → CQ M0 M1 ∧ CT0 M1 t N ∧ ((∃ P', r = some (.int 1) ∧ Rch t (2, 0, 0, P0) (4, 0, 0, P') ∧ CR M1 P' sh N z ∧ FR M0 P0 M1 P' sh ∧ P'.1.2.1 = P0.1.2.1 ∧ P'.1.2.2.2 = P0.1.2.2.2 ∧ (¬ t P'.1.1 = 38 ∧ ¬ t P'.1.1 = 124)) ∨ (r = some (.int 0) ∧ CB t (2, 0, 0, P0) M1)) := by
  intro n
  induction n with
  | zero => intro _ d L M0 M r M1 t N sh z P0 P _ _ _ _ _ _ _ _ _ _ _ _ h; exact (En.zero (mi := 78) (pc := 5) (len := 1) rfl h).elim
  | succ n ih =>
    intro hK d L M0 M r M1 t N sh z P0 P l0 l1 hQ hT hC hF eO eW hb hr ht hn h
    have hS := hQ.1
    replace h := eIloadS (mi := 78) (pc := 5) (len := 1) (i := 1) rfl l1 h
    rcases eIf (mi := 78) (pc := 6) (len := 3) (t := 71) rfl rfl h with ⟨c1, h⟩ | ⟨c1, h⟩
    · exact absurd c1 (by decide)
    · skip
      replace h := eAload (mi := 78) (pc := 9) (len := 1) (i := 0) rfl l0 h
      replace h := eGetI (a := 130) (j := 503) hS (by decide) (by decide) rfl (mi := 78) (pc := 10) (len := 3) rfl h
      replace h := eAload (mi := 78) (pc := 13) (len := 1) (i := 0) rfl l0 h
      replace h := eGetI (a := 130) (j := 502) hS (by decide) (by decide) rfl (mi := 78) (pc := 14) (len := 3) rfl h
      rcases eIc (mi := 78) (pc := 17) (len := 3) (t := 71) rfl rfl h with ⟨c2, h⟩ | ⟨c2, h⟩
      · replace c2 : ¬ (iv M 130 3).toInt < (iv M 130 2).toInt := mC_ge.1 c2
        replace h := eIload (mi := 78) (pc := 71) (len := 1) (i := 1) rfl l1 h
        obtain ⟨e1, e2⟩ := eRetI (mi := 78) (pc := 72) (len := 1) rfl h
        rw [e2]
        have q : t P.1.1 = -1 := hT.2.2.2.2.1 _ (by have q := c2; rw [hC.1, hT.2.1] at q; omega)
        exact ⟨hQ, hT, Or.inl ⟨P, e1, hr, hC, hF, eO, eW, by rw [q]; decide⟩⟩
      · replace c2 : (iv M 130 3).toInt < (iv M 130 2).toInt := mC_ge.2 c2
        replace h := eAload (mi := 78) (pc := 20) (len := 1) (i := 0) rfl l0 h
        replace h := eGetX (a := 130) (j := 501) (b := 128) (i := 1) hT.1 rfl (mi := 78) (pc := 21) (len := 3) rfl h
        replace h := eAload (mi := 78) (pc := 24) (len := 1) (i := 0) rfl l0 h
        replace h := eGetI (a := 130) (j := 503) hS (by decide) (by decide) rfl (mi := 78) (pc := 25) (len := 3) rfl h
        obtain ⟨b3, h⟩ := eIald (x := (iv M 130 3)) hS (a := 128) (by decide) (by decide) rfl (mi := 78) (pc := 28) (len := 1) rfl h
        replace h := eConst (mi := 78) (pc := 29) (len := 2) (v := 124) rfl h
        rcases eIc (mi := 78) (pc := 31) (len := 3) (t := 71) rfl rfl h with ⟨c4, h⟩ | ⟨c4, h⟩
        · replace c4 : ¬ (iv M 128 (iv M 130 3).toInt.toNat).toInt = 124 := mC_ne.1 c4
          replace h := eIload (mi := 78) (pc := 71) (len := 1) (i := 1) rfl l1 h
          obtain ⟨e1, e2⟩ := eRetI (mi := 78) (pc := 72) (len := 1) rfl h
          rw [e2]
          have lt : P.1.1 < N := by have q := c2; rw [hC.1, hT.2.1] at q; exact q
          have p0 : 0 ≤ P.1.1 := by have := hC.2.2.2; omega
          have ec : (iv M 128 (iv M 130 3).toInt.toNat).toInt = t P.1.1 := by rw [hC.1, ← hT.2.2.2.1 _ (by omega)]; congr 1; omega
          have eb := c4
          rw [ec] at eb
          exact ⟨hQ, hT, Or.inl ⟨P, e1, hr, hC, hF, eO, eW, ⟨hn, eb⟩⟩⟩
        · replace c4 : (iv M 128 (iv M 130 3).toInt.toNat).toInt = 124 := mC_ne.2 c4
          replace h := eAload (mi := 78) (pc := 34) (len := 1) (i := 0) rfl l0 h
          replace h := eDupR (mi := 78) (pc := 35) (len := 1) rfl h
          replace h := eGetI (a := 130) (j := 503) hS (by decide) (by decide) rfl (mi := 78) (pc := 36) (len := 3) rfl h
          replace h := eConst (mi := 78) (pc := 39) (len := 1) (v := 1) rfl h
          replace h := eAdd (mi := 78) (pc := 40) (len := 1) rfl h
          have lt : P.1.1 < N := by have q := c2; rw [hC.1, hT.2.1] at q; exact q
          have p0 : 0 ≤ P.1.1 := by have := hC.2.2.2; omega
          have ec : (iv M 128 (iv M 130 3).toInt.toNat).toInt = t P.1.1 := by rw [hC.1, ← hT.2.2.2.1 _ (by omega)]; congr 1; omega
          have eb := c4
          rw [ec] at eb
          obtain ⟨N5, eN5⟩ : ∃ X_, X_ = mPut M 130 3 (.int ((iv M 130 3) + (1 : Int32))) := ⟨_, rfl⟩
          replace h := ePutE (a := 130) (f := 3) (N := N5) rfl eN5 (mi := 78) (pc := 41) (len := 3) (j := 503) rfl h
          have hS6 : Sh N5 := by rw [eN5]; exact hS.put (by decide) (by decide) rfl
          have hA : CQ M N5 ∧ CT0 N5 t N ∧ CR N5 (pAdv (pPush P (12582912 + (P.1.2.2.1 : Int)))) sh N (z + 1) ∧ SM M N5 := by rw [eN5]; exact adv_ok hS hT hC (fun q => by have q : t P.1.1 = -1 := q; omega)
          have z0 := hC.2.2.2.1.2.2.2
          have k9 : (P.1.2.2.1 : Int) < 1048576 := by have q := hC.2.2.2; have := hT.2.2.1; omega
          replace h := eAload (mi := 78) (pc := 44) (len := 1) (i := 0) rfl l0 h
          replace h := eGetR (a := 130) (j := 500) (g := 131) hA.1.1 (by decide) (by decide) rfl rfl rfl (mi := 78) (pc := 45) (len := 3) rfl h
          replace h := eConst (mi := 78) (pc := 48) (len := 2) (v := 124) rfl h
          replace h := eConst (mi := 78) (pc := 50) (len := 1) (v := 0) rfl h
          obtain ⟨r7, N8, g9, h⟩ := eCall (mi := 78) (pc := 51) (len := 3) (j := 60) (as := [.ref 131, .int (124 : Int32), .int (0 : Int32)]) (rest := []) rfl (Or.inr (Or.inl rfl)) (by decide) rfl rfl h
          have ev : (stepV (124 : Int32) (0 : Int32)).toInt = encC sh (12582912) := rfl
          obtain ⟨l160, hQ4, hT4, hC4, hF4, ei4⟩ := emit_ok (z := z) hA.1.1 hA.2.1 hA.2.2.1 z0 ev
          obtain ⟨q4, eM4⟩ := step_en hA.1.1 l160 g9
          rw [q4, eM4] at h
          obtain ⟨N10, eN10⟩ : ∃ X_, X_ = (stepM N5 (124 : Int32) (0 : Int32)) := ⟨_, rfl⟩
          rw [← eN10] at h hQ4 hT4 hC4 hF4 ei4
          obtain ⟨jv, ejv⟩ : ∃ X_, X_ = iv N10 131 1 - 1 := ⟨_, rfl⟩
          rw [← ejv] at h ei4
          replace h := eIstore (mi := 78) (pc := 54) (len := 1) (i := 2) rfl (by decide) h
          replace h := eAload (mi := 78) (pc := 55) (len := 1) (i := 0) rfl (mLd_st1_ref (by decide) l0) h
          obtain ⟨r11, N12, g13, h⟩ := eCall (mi := 78) (pc := 56) (len := 3) (j := 79) (as := [.ref 130]) (rest := []) rfl (Or.inr (Or.inl rfl)) (by decide) rfl rfl h
          have tp2 : pTop (pEm (pAdv (pPush P (12582912 + (P.1.2.2.1 : Int)))) 12582912) = 12 := pTop_jmp (op := 12) k9 _
          obtain ⟨hQ5, hT5, hR5⟩ := hK n (Nat.le_succ n) _ _ _ _ t N sh z (pEm (pAdv (pPush P (12582912 + (P.1.2.2.1 : Int)))) 12582912) hQ4.1 hT4 hC4 (by show 1 ≤ P.1.2.2.2 + 1; omega) (Or.inl tp2) g13
          have s1 : sm t (4, 0, 0, P) = (2, 0, 0, (pEm (pAdv (pPush P (12582912 + (P.1.2.2.1 : Int)))) 12582912)) := sQ_124 ht eb
          rcases hR5 with ⟨P3, er, hr3, hC3, hF3, eO3, eW3, hk3⟩ | ⟨er, hB3⟩
          · rw [er] at h
            replace h := eIstore (mi := 78) (pc := 59) (len := 1) (i := 1) rfl (by decide) h
            replace h := eAload (mi := 78) (pc := 60) (len := 1) (i := 0) rfl (mLd_st1_ref (by decide) (mLd_st1_ref (by decide) l0)) h
            replace h := eGetR (a := 130) (j := 500) (g := 131) hQ5.1 (by decide) (by decide) rfl rfl rfl (mi := 78) (pc := 61) (len := 3) rfl h
            replace h := eIload (mi := 78) (pc := 64) (len := 1) (i := 2) rfl (mLd_st1_int (by decide) mLd_st1_i) h
            obtain ⟨r14, N15, g16, h⟩ := eCall (mi := 78) (pc := 65) (len := 3) (j := 61) (as := [.ref 131, .int jv]) (rest := []) rfl (Or.inr (Or.inl rfl)) (by decide) rfl rfl h
            have W3 : P3.1.2.2.2 = P.1.2.2.2 + 1 := eW3
            have s0 : 0 ≤ sh := hC.2.2.2.1.1
            have w3 : P3.2.2 (P3.1.2.2.2 - 1) = (12 : Nat) * 1048576 + ((P.1.2.2.1 : Nat) : Int) := by rw [W3, hF3.2.1 _ (show P.1.2.2.2 + 1 - 1 < P.1.2.2.2 + 1 by omega)]; show pUp P.2.2 P.1.2.2.2 _ (P.1.2.2.2 + 1 - 1) = _; unfold pUp; rw [if_pos (by omega)]; rfl
            have c3 : P.1.2.2.1 < P3.1.2.2.1 := hF3.2.2.1
            have d3 : P3.2.1 P.1.2.2.1 = (12 : Nat) * 1048576 := by rw [hF3.2.2.2.1 _ (show P.1.2.2.1 < P.1.2.2.1 + 1 by omega)]; show pUp P.2.1 P.1.2.2.1 _ P.1.2.2.1 = _; unfold pUp; rw [if_pos rfl]; rfl
            have hF2 := hF.st (R := (pAdv (pPush P (12582912 + (P.1.2.2.1 : Int))))) hA.2.2.2 rfl rfl (by show P0.1.2.2.2 ≤ P.1.2.2.2 + 1; omega) (fun k hk => by show pUp P.2.2 P.1.2.2.2 _ k = P.2.2 k; unfold pUp; rw [if_neg (by omega)])
            have hF5 := (hF2.tr s0 hF4).tr s0 hF3
            have jl := jland_ok (op := 12) (jd := P.1.2.2.1) (a := 124) (v := jv) (by decide) hQ5.1 hT5 hC3 hF5 hF.2.2.1 c3 d3 w3 (by omega) ei4
            obtain ⟨q6, eM6⟩ := aim_en hQ5.1 jl.1.1 jl.1.2 g16
            rw [q6] at h
            rw [← eM6] at jl
            replace h := eGoto (mi := 78) (pc := 68) (len := 3) (t := 5) rfl rfl h
            have t3 : pTop P3 = 12 := (pTop_eq hF3 eW3).trans tp2
            have hr6 := hr.tr (Rch.go s1 (hr3.tr (Rch.go (sQ_or t3 hk3) Rch.rf)))
            have tq : pTop (pPop (pLand P3 (12 : Nat))) = pTop P := pTop_pop (P := P) (Q := P3) (v := 0) W3 (fun k hk => by rw [hF3.2.1 k (show k < P.1.2.2.2 + 1 by omega)]; show pUp P.2.2 P.1.2.2.2 _ k = P.2.2 k; unfold pUp; rw [if_neg (by omega)])
            refine ih (fun m hm => hK m (by omega)) _ _ M0 _ _ _ t N sh z P0 (pPop (pLand P3 (12 : Nat))) (mLd_st1_ref (by decide) (mLd_st1_ref (by decide) l0)) mLd_st1_i ((((hQ.tr hA.1).tr hQ4).tr hQ5).tr jl.2.1) jl.2.2.1 jl.2.2.2.1 jl.2.2.2.2 ?_ ?_ ?_ hr6 (by rw [tq]; exact ht) hk3 h
            · exact eO3.trans eO
            · show P3.1.2.2.2 - 1 = P0.1.2.2.2
              omega
            · show 1 ≤ P3.1.2.2.2 - 1
              omega
          · rw [er] at h
            replace h := eIstore (mi := 78) (pc := 59) (len := 1) (i := 1) rfl (by decide) h
            replace h := eAload (mi := 78) (pc := 60) (len := 1) (i := 0) rfl (mLd_st1_ref (by decide) (mLd_st1_ref (by decide) l0)) h
            replace h := eGetR (a := 130) (j := 500) (g := 131) hQ5.1 (by decide) (by decide) rfl rfl rfl (mi := 78) (pc := 61) (len := 3) rfl h
            replace h := eIload (mi := 78) (pc := 64) (len := 1) (i := 2) rfl (mLd_st1_int (by decide) mLd_st1_i) h
            obtain ⟨r17, N18, g19, h⟩ := eCall (mi := 78) (pc := 65) (len := 3) (j := 61) (as := [.ref 131, .int jv]) (rest := []) rfl (Or.inr (Or.inl rfl)) (by decide) rfl rfl h
            obtain ⟨q6, hQ6, hT6, e56⟩ := aim_any hQ5.1 hT5 g19
            rw [q6] at h
            replace h := eGoto (mi := 78) (pc := 68) (len := 3) (t := 5) rfl rfl h
            replace h := eIload (mi := 78) (pc := 5) (len := 1) (i := 1) rfl mLd_st1_i h
            rcases eIf (mi := 78) (pc := 6) (len := 3) (t := 71) rfl rfl h with ⟨c20, h⟩ | ⟨c20, h⟩
            · skip
              replace h := eIload (mi := 78) (pc := 71) (len := 1) (i := 1) rfl mLd_st1_i h
              obtain ⟨e1, e2⟩ := eRetI (mi := 78) (pc := 72) (len := 1) rfl h
              rw [e2]
              exact ⟨(((hQ.tr hA.1).tr hQ4).tr hQ5).tr hQ6, hT6, Or.inr ⟨e1, (CB.pre (hr.tr (Rch.go s1 Rch.rf)) hB3).st e56⟩⟩
            · exact absurd c20 (by decide)

/-! the class's reader against the machine: the whole text (printed by fn15.py) -/
/-- what comes of a text: its fault (0: none), and how many clauses -/
def RdE (t : Int → Int) (f g : Nat → Int) (v : Int) (c : Nat) : Prop := ∃ k P, RdS t f g k P ∧ ((ClB t k P v ∧ c = 0) ∨ ∃ Q P1, k < 12 ∧ ClQ t P Q ∧ ClE t Q P1 ∧ ¬ t P1.1.1 = 59 ∧ ((¬ t P1.1.1 = -1 ∧ v = -1000 * 1 - P1.1.1 ∧ c = 0) ∨ (t P1.1.1 = -1 ∧ v = 0 ∧ c = k + 1)))
/-- all clauses read by now, as the class keeps them -/
def PGS (t : Int → Int) (f g : Nat → Int) (M : Mem) (F : Nat → Int) (k cs : Nat) (top : Int) : Prop := ∀ j, j < k → ∃ P Q P1 sh sk, RdS t f g j P ∧ ClQ t P Q ∧ ClE t Q P1 ∧ PG M F j (t P.1.1) P.1.2.2.1 Q.1.2.2.1 P1.1.2.2.1 sh sk ∧ P1.1.2.2.1 ≤ cs ∧ (P1.1.2.2.1 : Int) + sk + 1 ≤ top
/-- the class's answer to a text -/
def RdO (t : Int → Int) (f g : Nat → Int) (M0 : Mem) (r : Option Value) (M1 : Mem) : Prop := Sh M1 ∧ Fx 130 135 M0 M1 ∧ ∃ x c, r = some (.int x) ∧ RdE t f g x.toInt c ∧ (0 < c → (iv M1 131 5).toInt = (c : Int) ∧ ∃ k P Q P1 top, c = k + 1 ∧ RdS t f g k P ∧ ClQ t P Q ∧ ClE t Q P1 ∧ PGS t f g M1 P1.2.1 (k + 1) P1.1.2.2.1 top ∧ (iv M1 131 1).toInt = top)
theorem PG.sk {M : Mem} {F : Nat → Int} {j : Nat} {c : Int} {a b e : Nat} {sh sk : Int} (h : PG M F j c a b e sh sk) : a ≤ b ∧ b ≤ e ∧ 0 ≤ sh ∧ sh ≤ sk ∧ sk ≤ sh + 1 ∧ (c = 121 → sk = sh + 1) := by
  obtain ⟨_, _, _, ⟨q1, q2, q3, q4⟩, _⟩ := h
  by_cases y : c = 121
  · rw [if_pos y] at q4
    exact ⟨q1, q2, q3, by omega, by omega, fun _ => q4⟩
  · rw [if_neg y] at q4
    exact ⟨q1, q2, q3, by omega, by omega, fun q => absurd q y⟩
theorem PG.keep {M M' : Mem} {F F' : Nat → Int} {j : Nat} {c : Int} {a b e : Nat} {sh sk : Int} (h : PG M F j c a b e sh sk) (h1 : iv M' 133 j = iv M 133 j ∧ iv M' 134 j = iv M 134 j ∧ iv M' 135 j = iv M 135 j) (h2 : ∀ i : Nat, (i : Int) < e + sk + 1 → iv M' 132 i = iv M 132 i) (h3 : ∀ i, i < e → F' i = F i) : PG M' F' j c a b e sh sk := by
  obtain ⟨k1, k2, k3, k4, k5, k6⟩ := h.sk
  obtain ⟨p1, p2, p3, p4, p5, p6, p7, p8⟩ := h
  refine ⟨by rw [h1.1]; exact p1, by rw [h1.2.1]; exact p2, by rw [h1.2.2]; exact p3, p4, fun i i1 i2 => ?_, fun y => ?_, fun i i1 i2 => ?_, ?_⟩
  · rw [h2 _ (by omega), h3 i (by omega)]
    exact p5 i i1 i2
  · have := k6 y
    rw [h2 _ (by omega)]
    exact p6 y
  · rw [h2 _ (by omega), h3 i (by omega)]
    exact p7 i i1 i2
  · rw [h2 _ (by omega)]
    exact p8
theorem PGS.step {t : Int → Int} {f g : Nat → Int} {M M2 M3 : Mem} {k : Nat} {P1 P Q P' : PS} {sk sk' : Int} (h : PGS t f g M P1.2.1 (k + 1) P1.1.2.2.1 ((P1.1.2.2.1 : Int) + sk + 1)) (hk : ∀ c i, 130 < c → iv M2 c i = iv M c i) (e1 : P.1.2.2.1 = P1.1.2.2.1) (e2 : P.2.1 = P1.2.1) (hp : PK (k + 1) M2 P M3 P' (sk + 1)) (hs : RdS t f g (k + 1) P) (hq : ClQ t P Q) (he : ClE t Q P') (hg : PG M3 P'.2.1 (k + 1) (t P.1.1) P.1.2.2.1 Q.1.2.2.1 P'.1.2.2.1 (sk + 1) sk') : PGS t f g M3 P'.2.1 (k + 1 + 1) P'.1.2.2.1 ((P'.1.2.2.1 : Int) + sk' + 1) := by
  obtain ⟨k1, k2, k3, k4, k5, k6⟩ := hg.sk
  obtain ⟨_, p1, p2, p3⟩ := hp
  rw [e1] at k1 p2 p3
  intro j hj
  by_cases q : j = k + 1
  · subst q
    exact ⟨P, Q, P', sk + 1, sk', hs, hq, he, hg, Nat.le_refl _, Int.le_refl _⟩
  · obtain ⟨A, B, C, sh, s2, a1, a2, a3, a4, a5, a6⟩ := h j (by omega)
    refine ⟨A, B, C, sh, s2, a1, a2, a3, a4.keep ?_ ?_ ?_, by omega, by omega⟩
    · obtain ⟨b1, b2, b3⟩ := p1 j q
      exact ⟨b1.trans (hk 133 j (by decide)), b2.trans (hk 134 j (by decide)), b3.trans (hk 135 j (by decide))⟩
    · exact fun i hi => (p2 i (by omega)).trans (hk 132 i (by decide))
    · exact fun i hi => by rw [p3 i (by omega), e2]
theorem PGS.one {t : Int → Int} {f g : Nat → Int} {M : Mem} {P Q P' : PS} {sh sk : Int} (hs : RdS t f g 0 P) (hq : ClQ t P Q) (he : ClE t Q P') (hg : PG M P'.2.1 0 (t P.1.1) P.1.2.2.1 Q.1.2.2.1 P'.1.2.2.1 sh sk) : PGS t f g M P'.2.1 (0 + 1) P'.1.2.2.1 ((P'.1.2.2.1 : Int) + sk + 1) := by
  intro j hj
  have e : j = 0 := by omega
  subst e
  exact ⟨P, Q, P', sh, sk, hs, hq, he, hg, Nat.le_refl _, Int.le_refl _⟩
theorem clr_en {n d : Nat} {M : Mem} {r : Option Value} {M1 : Mem} (hS : Sh M) (h : En n d 58 0 (lv_args 0 [.ref 131]) [] M r M1) : r = none ∧ M1 = mPut (mPut M 131 1 (.int 0)) 131 5 (.int 0) := by
  replace h := eAload (mi := 58) (pc := 0) (len := 1) (i := 0) rfl rfl h
  replace h := eConst (mi := 58) (pc := 1) (len := 1) (v := 0) rfl h
  obtain ⟨N1, eN1⟩ : ∃ X_, X_ = mPut M 131 1 (.int (0 : Int32)) := ⟨_, rfl⟩
  replace h := ePutE (a := 131) (f := 1) (N := N1) rfl eN1 (mi := 58) (pc := 2) (len := 3) (j := 401) rfl h
  have hS2 : Sh N1 := by rw [eN1]; exact hS.put (by decide) (by decide) rfl
  replace h := eAload (mi := 58) (pc := 5) (len := 1) (i := 0) rfl rfl h
  replace h := eConst (mi := 58) (pc := 6) (len := 1) (v := 0) rfl h
  obtain ⟨N3, eN3⟩ : ∃ X_, X_ = mPut N1 131 5 (.int (0 : Int32)) := ⟨_, rfl⟩
  replace h := ePutE (a := 131) (f := 5) (N := N3) rfl eN3 (mi := 58) (pc := 7) (len := 3) (j := 405) rfl h
  have hS4 : Sh N3 := by rw [eN3]; exact hS2.put (by decide) (by decide) rfl
  obtain ⟨e1, e2⟩ := eRetV (mi := 58) (pc := 10) (len := 1) rfl h
  rw [e2, eN3, eN1]
  exact ⟨e1, rfl⟩
theorem rd_lp {t : Int → Int} {f g : Nat → Int} {N : Int} {M0 : Mem} (nm1 : ∀ p : Int, 0 ≤ p → p < N → ¬ t p = -1) : ∀ (n d : Nat) (L : MLoc) (M : Mem) (r : Option Value) (M1 : Mem) (k : Nat) (P Q P1 : PS) (sk : Int), mLd L 0 = some (.ref 130) → mLd L 3 = some (.int 1) → Sh M → CT0 M t N → Fx 130 135 M0 M → RdS t f g k P → k < 12 → ClQ t P Q → ClE t Q P1 → CR M P1 (sk + 1) N 0 → P1.1.2.1 = 0 → P1.1.2.2.2 = 0 → (iv M 131 5).toInt = (k : Int) + 1 → (iv M 130 5).toInt = 0 → PGS t f g M P1.2.1 (k + 1) P1.1.2.2.1 ((P1.1.2.2.1 : Int) + sk + 1) → En n d 71 42 L [] M r M1 → RdO t f g M0 r M1 := by
  intro n
  induction n with
  | zero => intro d L M r M1 k P Q P1 sk _ _ _ _ _ _ _ _ _ _ _ _ _ _ _ h; exact (En.zero (mi := 71) (pc := 42) (len := 1) rfl h).elim
  | succ n ih =>
    intro d L M r M1 k P Q P1 sk l0 l3 hS hT fx hs hk hq he hC eO eW ek ef hpg h
    replace h := eIloadS (mi := 71) (pc := 42) (len := 1) (i := 3) rfl l3 h
    rcases eIf (mi := 71) (pc := 43) (len := 3) (t := 89) rfl rfl h with ⟨c1, h⟩ | ⟨c1, h⟩
    · exact absurd c1 (by decide)
    · skip
      replace h := eAload (mi := 71) (pc := 46) (len := 1) (i := 0) rfl l0 h
      replace h := eGetI (a := 130) (j := 503) hS (by decide) (by decide) rfl (mi := 71) (pc := 47) (len := 3) rfl h
      replace h := eAload (mi := 71) (pc := 50) (len := 1) (i := 0) rfl l0 h
      replace h := eGetI (a := 130) (j := 502) hS (by decide) (by decide) rfl (mi := 71) (pc := 51) (len := 3) rfl h
      rcases eIc (mi := 71) (pc := 54) (len := 3) (t := 89) rfl rfl h with ⟨c2, h⟩ | ⟨c2, h⟩
      · replace c2 : ¬ (iv M 130 3).toInt < (iv M 130 2).toInt := mC_ge.1 c2
        replace h := eIload (mi := 71) (pc := 89) (len := 1) (i := 3) rfl l3 h
        rcases eIf (mi := 71) (pc := 90) (len := 3) (t := 110) rfl rfl h with ⟨c3, h⟩ | ⟨c3, h⟩
        · exact absurd c3 (by decide)
        · skip
          replace h := eAload (mi := 71) (pc := 93) (len := 1) (i := 0) rfl l0 h
          replace h := eGetI (a := 130) (j := 503) hS (by decide) (by decide) rfl (mi := 71) (pc := 94) (len := 3) rfl h
          replace h := eAload (mi := 71) (pc := 97) (len := 1) (i := 0) rfl l0 h
          replace h := eGetI (a := 130) (j := 502) hS (by decide) (by decide) rfl (mi := 71) (pc := 98) (len := 3) rfl h
          rcases eIc (mi := 71) (pc := 101) (len := 3) (t := 110) rfl rfl h with ⟨c4, h⟩ | ⟨c4, h⟩
          · replace c4 : ¬ (iv M 130 3).toInt < (iv M 130 2).toInt := mC_ge.1 c4
            replace h := eAload (mi := 71) (pc := 110) (len := 1) (i := 0) rfl l0 h
            replace h := eGetI (a := 130) (j := 505) hS (by decide) (by decide) rfl (mi := 71) (pc := 111) (len := 3) rfl h
            obtain ⟨e1, e2⟩ := eRetI (mi := 71) (pc := 114) (len := 1) rfl h
            have ts : t P1.1.1 = -1 := hT.2.2.2.2.1 _ (by have q := c2; rw [hC.1, hT.2.1] at q; omega)
            rw [e1, e2]
            refine ⟨hS, fx, _, k + 1, rfl, ⟨k, P, hs, Or.inr ⟨Q, P1, hk, hq, he, by rw [ts]; decide, Or.inr ⟨ts, ef, rfl⟩⟩⟩, fun _ => ⟨by rw [ek]; rfl, k, P, Q, P1, _, rfl, hs, hq, he, hpg, by rw [hC.2.2.1]; omega⟩⟩
          · replace c4 : (iv M 130 3).toInt < (iv M 130 2).toInt := mC_ge.2 c4
            replace h := eAload (mi := 71) (pc := 104) (len := 1) (i := 0) rfl l0 h
            replace h := eConst (mi := 71) (pc := 105) (len := 1) (v := 1) rfl h
            obtain ⟨r5, N6, g7, h⟩ := eCall (mi := 71) (pc := 106) (len := 3) (j := 72) (as := [.ref 130, .int (1 : Int32)]) (rest := []) rfl (Or.inr (Or.inl rfl)) (by decide) rfl rfl h
            obtain ⟨q8, q9⟩ := fail_en hS g7
            rw [q8] at h
            have eN6 := q9
            have hS10 : Sh N6 := by rw [eN6]; exact hS.put (by decide) (by decide) rfl
            replace h := ePopI (mi := 71) (pc := 109) (len := 1) rfl h
            replace h := eAload (mi := 71) (pc := 110) (len := 1) (i := 0) rfl l0 h
            replace h := eGetI (a := 130) (j := 505) hS10 (by decide) (by decide) rfl (mi := 71) (pc := 111) (len := 3) rfl h
            obtain ⟨e1, e2⟩ := eRetI (mi := 71) (pc := 114) (len := 1) rfl h
            exact absurd c4 c2
      · replace c2 : (iv M 130 3).toInt < (iv M 130 2).toInt := mC_ge.2 c2
        have lt : P1.1.1 < N := by have q := c2; rw [hC.1, hT.2.1] at q; exact q
        have p0 : 0 ≤ P1.1.1 := by have := hC.2.2.2; omega
        have ec : (iv M 128 (iv M 130 3).toInt.toNat).toInt = t P1.1.1 := by rw [hC.1, ← hT.2.2.2.1 _ (by omega)]; congr 1; omega
        replace h := eAload (mi := 71) (pc := 57) (len := 1) (i := 0) rfl l0 h
        replace h := eGetX (a := 130) (j := 501) (b := 128) (i := 1) hT.1 rfl (mi := 71) (pc := 58) (len := 3) rfl h
        replace h := eAload (mi := 71) (pc := 61) (len := 1) (i := 0) rfl l0 h
        replace h := eGetI (a := 130) (j := 503) hS (by decide) (by decide) rfl (mi := 71) (pc := 62) (len := 3) rfl h
        obtain ⟨b11, h⟩ := eIald (x := (iv M 130 3)) hS (a := 128) (by decide) (by decide) rfl (mi := 71) (pc := 65) (len := 1) rfl h
        replace h := eConst (mi := 71) (pc := 66) (len := 2) (v := 59) rfl h
        rcases eIc (mi := 71) (pc := 68) (len := 3) (t := 89) rfl rfl h with ⟨c12, h⟩ | ⟨c12, h⟩
        · replace c12 : ¬ (iv M 128 (iv M 130 3).toInt.toNat).toInt = 59 := mC_ne.1 c12
          replace h := eIload (mi := 71) (pc := 89) (len := 1) (i := 3) rfl l3 h
          rcases eIf (mi := 71) (pc := 90) (len := 3) (t := 110) rfl rfl h with ⟨c13, h⟩ | ⟨c13, h⟩
          · exact absurd c13 (by decide)
          · skip
            replace h := eAload (mi := 71) (pc := 93) (len := 1) (i := 0) rfl l0 h
            replace h := eGetI (a := 130) (j := 503) hS (by decide) (by decide) rfl (mi := 71) (pc := 94) (len := 3) rfl h
            replace h := eAload (mi := 71) (pc := 97) (len := 1) (i := 0) rfl l0 h
            replace h := eGetI (a := 130) (j := 502) hS (by decide) (by decide) rfl (mi := 71) (pc := 98) (len := 3) rfl h
            rcases eIc (mi := 71) (pc := 101) (len := 3) (t := 110) rfl rfl h with ⟨c14, h⟩ | ⟨c14, h⟩
            · replace c14 : ¬ (iv M 130 3).toInt < (iv M 130 2).toInt := mC_ge.1 c14
              replace h := eAload (mi := 71) (pc := 110) (len := 1) (i := 0) rfl l0 h
              replace h := eGetI (a := 130) (j := 505) hS (by decide) (by decide) rfl (mi := 71) (pc := 111) (len := 3) rfl h
              obtain ⟨e1, e2⟩ := eRetI (mi := 71) (pc := 114) (len := 1) rfl h
              exact absurd c2 c14
            · replace c14 : (iv M 130 3).toInt < (iv M 130 2).toInt := mC_ge.2 c14
              replace h := eAload (mi := 71) (pc := 104) (len := 1) (i := 0) rfl l0 h
              replace h := eConst (mi := 71) (pc := 105) (len := 1) (v := 1) rfl h
              obtain ⟨r15, N16, g17, h⟩ := eCall (mi := 71) (pc := 106) (len := 3) (j := 72) (as := [.ref 130, .int (1 : Int32)]) (rest := []) rfl (Or.inr (Or.inl rfl)) (by decide) rfl rfl h
              obtain ⟨q18, q19⟩ := fail_en hS g17
              rw [q18] at h
              have eN16 := q19
              have hS20 : Sh N16 := by rw [eN16]; exact hS.put (by decide) (by decide) rfl
              replace h := ePopI (mi := 71) (pc := 109) (len := 1) rfl h
              replace h := eAload (mi := 71) (pc := 110) (len := 1) (i := 0) rfl l0 h
              replace h := eGetI (a := 130) (j := 505) hS20 (by decide) (by decide) rfl (mi := 71) (pc := 111) (len := 3) rfl h
              obtain ⟨e1, e2⟩ := eRetI (mi := 71) (pc := 114) (len := 1) rfl h
              have f9 := fail_ok (k := 1) (c := cBad 1 P1) hS hT hC (by decide) (by decide) Rch.rf
              rw [← eN16] at f9
              have n59 : ¬ t P1.1.1 = 59 := fun q => c12 (ec.trans q)
              have b9 := hT.2.2.2.1 P1.1.1.toNat (by omega)
              rw [e1, e2]
              exact ⟨f9.1.1, fx.tr (Fx13 f9.1), _, 0, rfl, ⟨k, P, hs, Or.inr ⟨Q, P1, hk, hq, he, n59, Or.inl ⟨nm1 P1.1.1 p0 lt, CB_val f9.2.2, rfl⟩⟩⟩, fun q => absurd q (Nat.lt_irrefl 0)⟩
        · replace c12 : (iv M 128 (iv M 130 3).toInt.toNat).toInt = 59 := mC_ne.2 c12
          replace h := eAload (mi := 71) (pc := 71) (len := 1) (i := 0) rfl l0 h
          replace h := eDupR (mi := 71) (pc := 72) (len := 1) rfl h
          replace h := eGetI (a := 130) (j := 503) hS (by decide) (by decide) rfl (mi := 71) (pc := 73) (len := 3) rfl h
          replace h := eConst (mi := 71) (pc := 76) (len := 1) (v := 1) rfl h
          replace h := eAdd (mi := 71) (pc := 77) (len := 1) rfl h
          obtain ⟨N21, eN21⟩ : ∃ X_, X_ = mPut M 130 3 (.int ((iv M 130 3) + (1 : Int32))) := ⟨_, rfl⟩
          replace h := ePutE (a := 130) (f := 3) (N := N21) rfl eN21 (mi := 71) (pc := 78) (len := 3) (j := 503) rfl h
          have hS22 : Sh N21 := by rw [eN21]; exact hS.put (by decide) (by decide) rfl
          have ts : t P1.1.1 = 59 := ec.symm.trans c12
          have hA : CQ M N21 ∧ CT0 N21 t N ∧ CR N21 (pAdv P1) (sk + 1) N (0 + 1) ∧ SM M N21 := by rw [eN21]; exact adv_ok hS hT hC (by rw [ts]; decide)
          replace h := eAload (mi := 71) (pc := 81) (len := 1) (i := 0) rfl l0 h
          obtain ⟨r23, N24, g25, h⟩ := eCall (mi := 71) (pc := 82) (len := 3) (j := 76) (as := [.ref 130]) (rest := []) rfl (Or.inr (Or.inl rfl)) (by decide) rfl rfl h
          obtain ⟨j1, j2, j3, j4⟩ := clause_ok (k := k + 1) (P := pAdv P1) (sh := sk + 1) hA.1.1 hA.2.1 (hA.2.2.1.le (z' := 0) (by omega) (by omega)) eO eW (by rw [hA.1.2.2]; exact ek) (by omega) g25
          rcases j4 with ⟨Q2, P2, sk2, er, k12, hq2, he2, hC2, eO2, eW2, ek2, le2, hg2, hp2⟩ | ⟨er, hb2⟩
          · rw [er] at h
            replace h := eIstore (mi := 71) (pc := 85) (len := 1) (i := 3) rfl (by decide) h
            replace h := eGoto (mi := 71) (pc := 86) (len := 3) (t := 42) rfl rfl h
            have hs2 : RdS t f g (k + 1) (pAdv P1) := ⟨P, Q, P1, hs, hk, hq, he, ts, rfl⟩
            have hk2 : ∀ c i, 130 < c → iv N21 c i = iv M c i := fun c i hc => by rw [eN21]; exact iv_put_ne (Or.inl (by omega))
            exact ih _ _ _ _ _ (k + 1) (pAdv P1) Q2 P2 sk2 (mLd_st1_ref (by decide) l0) mLd_st1_i j1 j2 ((fx.tr (Fx13 hA.1)).tr j3) hs2 k12 hq2 he2 hC2 eO2 eW2 ek2 (by rw [hp2.1, hA.2.2.2.1]; exact ef) (PGS.step (P := pAdv P1) hpg hk2 rfl rfl hp2 hs2 hq2 he2 hg2) h
          · rw [er] at h
            replace h := eIstore (mi := 71) (pc := 85) (len := 1) (i := 3) rfl (by decide) h
            replace h := eGoto (mi := 71) (pc := 86) (len := 3) (t := 42) rfl rfl h
            replace h := eIload (mi := 71) (pc := 42) (len := 1) (i := 3) rfl mLd_st1_i h
            rcases eIf (mi := 71) (pc := 43) (len := 3) (t := 89) rfl rfl h with ⟨c26, h⟩ | ⟨c26, h⟩
            · skip
              replace h := eIload (mi := 71) (pc := 89) (len := 1) (i := 3) rfl mLd_st1_i h
              rcases eIf (mi := 71) (pc := 90) (len := 3) (t := 110) rfl rfl h with ⟨c27, h⟩ | ⟨c27, h⟩
              · skip
                replace h := eAload (mi := 71) (pc := 110) (len := 1) (i := 0) rfl (mLd_st1_ref (by decide) l0) h
                replace h := eGetI (a := 130) (j := 505) j1 (by decide) (by decide) rfl (mi := 71) (pc := 111) (len := 3) rfl h
                obtain ⟨e1, e2⟩ := eRetI (mi := 71) (pc := 114) (len := 1) rfl h
                have hs2 : RdS t f g (k + 1) (pAdv P1) := ⟨P, Q, P1, hs, hk, hq, he, ts, rfl⟩
                rw [e1, e2]
                exact ⟨j1, (fx.tr (Fx13 hA.1)).tr j3, _, 0, rfl, ⟨k + 1, pAdv P1, hs2, Or.inl ⟨hb2, rfl⟩⟩, fun q => absurd q (Nat.lt_irrefl 0)⟩
              · exact absurd c27 (by decide)
            · exact absurd c26 (by decide)
def preM (M : Mem) (n : Int32) : Mem := mPut (mPut (mPut (mPut (mPut (mPut (mPut M 130 1 (.ref 128)) 130 2 (.int n)) 130 3 (.int 0)) 130 4 (.int 0)) 130 5 (.int 0)) 131 1 (.int 0)) 131 5 (.int 0)
/-- the text of a law: the first n bytes of the tape -/
def TX (M : Mem) (t : Int → Int) (n : Int) : Prop := (0 ≤ n ∧ n ≤ 160) ∧ (∀ k : Nat, (k : Int) < n → t k = (iv M 128 k).toInt ∧ 0 ≤ t k) ∧ (∀ k : Int, n ≤ k → t k = -1) ∧ ∀ k : Int, -1 ≤ t k ∧ t k ≤ 255
theorem TX.nm1 {M : Mem} {t : Int → Int} {n : Int} (h : TX M t n) (p : Int) (h0 : 0 ≤ p) (h1 : p < n) : ¬ t p = -1 := by
  have q := (h.2.1 p.toNat (by omega)).2
  rw [show ((p.toNat : Nat) : Int) = p by omega] at q
  omega
theorem pre_ok {M : Mem} {t : Int → Int} {f g : Nat → Int} {n : Int32} (hS : Sh M) (h : TX M t n.toInt) : Sh (preM M n) ∧ CT0 (preM M n) t n.toInt ∧ Fx 130 135 M (preM M n) ∧ CR (preM M n) ((0, 0, 0, 0), f, g) 0 n.toInt 0 ∧ (iv (preM M n) 131 5).toInt = ((0 : Nat) : Int) ∧ (iv (preM M n) 130 5).toInt = 0 := by
  unfold preM
  obtain ⟨A, eA⟩ : ∃ A, A = mPut M 130 1 (.ref 128) := ⟨_, rfl⟩
  have sA : Sh A := by rw [eA]; exact hS.putv (by decide) (by decide) True.intro
  rw [← eA]
  obtain ⟨B, eB⟩ : ∃ B, B = mPut A 130 2 (.int n) := ⟨_, rfl⟩
  have sB : Sh B := by rw [eB]; exact sA.put (by decide) (by decide) rfl
  rw [← eB]
  obtain ⟨C, eC⟩ : ∃ C, C = mPut B 130 3 (.int 0) := ⟨_, rfl⟩
  have sC : Sh C := by rw [eC]; exact sB.put (by decide) (by decide) rfl
  rw [← eC]
  obtain ⟨D, eD⟩ : ∃ D, D = mPut C 130 4 (.int 0) := ⟨_, rfl⟩
  have sD : Sh D := by rw [eD]; exact sC.put (by decide) (by decide) rfl
  rw [← eD]
  obtain ⟨E, eE⟩ : ∃ E, E = mPut D 130 5 (.int 0) := ⟨_, rfl⟩
  have sE : Sh E := by rw [eE]; exact sD.put (by decide) (by decide) rfl
  rw [← eE]
  obtain ⟨F, eF⟩ : ∃ F, F = mPut E 131 1 (.int 0) := ⟨_, rfl⟩
  have sF : Sh F := by rw [eF]; exact sE.put (by decide) (by decide) rfl
  rw [← eF]
  obtain ⟨G, eG⟩ : ∃ G, G = mPut F 131 5 (.int 0) := ⟨_, rfl⟩
  have sG : Sh G := by rw [eG]; exact sF.put (by decide) (by decide) rfl
  rw [← eG]
  have nB : ∀ c i, (c ≠ 130 ∨ i ≠ 2) → mSlot B c i = mSlot A c i := fun c i hq => by rw [eB]; exact mSlot_put_ne hq
  have nC : ∀ c i, (c ≠ 130 ∨ i ≠ 3) → mSlot C c i = mSlot B c i := fun c i hq => by rw [eC]; exact mSlot_put_ne hq
  have nD : ∀ c i, (c ≠ 130 ∨ i ≠ 4) → mSlot D c i = mSlot C c i := fun c i hq => by rw [eD]; exact mSlot_put_ne hq
  have nE : ∀ c i, (c ≠ 130 ∨ i ≠ 5) → mSlot E c i = mSlot D c i := fun c i hq => by rw [eE]; exact mSlot_put_ne hq
  have nF : ∀ c i, (c ≠ 131 ∨ i ≠ 1) → mSlot F c i = mSlot E c i := fun c i hq => by rw [eF]; exact mSlot_put_ne hq
  have nG : ∀ c i, (c ≠ 131 ∨ i ≠ 5) → mSlot G c i = mSlot F c i := fun c i hq => by rw [eG]; exact mSlot_put_ne hq
  have fx : Fx 130 135 M G := by
    intro c i hc
    rw [nG c i (by omega), nF c i (by omega), nE c i (by omega), nD c i (by omega), nC c i (by omega), nB c i (by omega), eA]
    exact mSlot_put_ne (by omega)
  have f0 : ∀ i, i ≠ 5 → iv G 130 i = iv E 130 i := fun i _ => iv_sl ((nG 130 i (Or.inl (by decide))).trans (nF 130 i (Or.inl (by decide))))
  refine ⟨sG, ⟨?_, ?_, h.1.2, fun k hk => ?_, h.2.2⟩, fx, ⟨?_, ?_, ?_, ⟨by decide, by show (0 : Int) ≤ 0; decide, by show (0 : Int) ≤ 6; decide, by decide⟩, by show ((0 : Nat) : Int) + 0 + 0 ≤ 0; decide, h.1.1⟩, ?_, ?_⟩
  · rw [nG 130 1 (Or.inl (by decide)), nF 130 1 (Or.inl (by decide)), nE 130 1 (Or.inr (by decide)), nD 130 1 (Or.inr (by decide)), nC 130 1 (Or.inr (by decide)), nB 130 1 (Or.inr (by decide)), eA]
    exact mSlot_put_eq (hS.hd (by decide) (by decide)) (by decide)
  · rw [f0 2 (by decide), iv_sl (nE 130 2 (Or.inr (by decide))), iv_sl (nD 130 2 (Or.inr (by decide))), iv_sl (nC 130 2 (Or.inr (by decide))), eB, iv_put_eq sA (by decide) (by decide) (by decide)]
  · rw [fx.si (c := 128) (by decide)]
    exact (h.2.1 k hk).1
  · rw [f0 3 (by decide), iv_sl (nE 130 3 (Or.inr (by decide))), iv_sl (nD 130 3 (Or.inr (by decide))), eC, iv_put_eq sB (by decide) (by decide) (by decide)]
    rfl
  · rw [f0 4 (by decide), iv_sl (nE 130 4 (Or.inr (by decide))), eD, iv_put_eq sC (by decide) (by decide) (by decide)]
    rfl
  · rw [iv_sl (nG 131 1 (Or.inr (by decide))), eF, iv_put_eq sE (by decide) (by decide) (by decide)]
    rfl
  · rw [eG, iv_put_eq sF (by decide) (by decide) (by decide)]
    rfl
  · rw [iv_sl (nG 130 5 (Or.inl (by decide))), iv_sl (nF 130 5 (Or.inl (by decide))), eE, iv_put_eq sD (by decide) (by decide) (by decide)]
    rfl
theorem read_ok {k d : Nat} {M : Mem} {r : Option Value} {M1 : Mem} {t : Int → Int} {f g : Nat → Int} {n : Int32} (hS : Sh M) (hX : TX M t n.toInt) (h : En k d 71 0 (lv_args 0 [.ref 130, .ref 128, .int n]) [] M r M1) : RdO t f g M r M1 := by
  replace h := eAload (mi := 71) (pc := 0) (len := 1) (i := 0) rfl rfl h
  replace h := eAload (mi := 71) (pc := 1) (len := 1) (i := 1) rfl rfl h
  obtain ⟨N1, eN1⟩ : ∃ X_, X_ = mPut M 130 1 (.ref 128) := ⟨_, rfl⟩
  replace h := ePutE (a := 130) (f := 1) (N := N1) rfl eN1 (mi := 71) (pc := 2) (len := 3) (j := 501) rfl h
  have hS2 : Sh N1 := by rw [eN1]; exact hS.putv (by decide) (by decide) True.intro
  replace h := eAload (mi := 71) (pc := 5) (len := 1) (i := 0) rfl rfl h
  replace h := eIload (mi := 71) (pc := 6) (len := 1) (i := 2) rfl rfl h
  replace h := eAload (mi := 71) (pc := 7) (len := 1) (i := 1) rfl rfl h
  replace h := eAlen (a := 128) hS2 (by decide) (by decide) (mi := 71) (pc := 8) (len := 1) rfl h
  replace h := eMin (mi := 71) (pc := 9) (len := 3) rfl h
  obtain ⟨N3, eN3⟩ : ∃ X_, X_ = mPut N1 130 2 (.int (if (200 : Int32) < n then (200 : Int32) else n)) := ⟨_, rfl⟩
  replace h := ePutE (a := 130) (f := 2) (N := N3) rfl eN3 (mi := 71) (pc := 12) (len := 3) (j := 502) rfl h
  have hS4 : Sh N3 := by rw [eN3]; exact hS2.put (by decide) (by decide) rfl
  replace h := eAload (mi := 71) (pc := 15) (len := 1) (i := 0) rfl rfl h
  replace h := eConst (mi := 71) (pc := 16) (len := 1) (v := 0) rfl h
  obtain ⟨N5, eN5⟩ : ∃ X_, X_ = mPut N3 130 3 (.int (0 : Int32)) := ⟨_, rfl⟩
  replace h := ePutE (a := 130) (f := 3) (N := N5) rfl eN5 (mi := 71) (pc := 17) (len := 3) (j := 503) rfl h
  have hS6 : Sh N5 := by rw [eN5]; exact hS4.put (by decide) (by decide) rfl
  replace h := eAload (mi := 71) (pc := 20) (len := 1) (i := 0) rfl rfl h
  replace h := eConst (mi := 71) (pc := 21) (len := 1) (v := 0) rfl h
  obtain ⟨N7, eN7⟩ : ∃ X_, X_ = mPut N5 130 4 (.int (0 : Int32)) := ⟨_, rfl⟩
  replace h := ePutE (a := 130) (f := 4) (N := N7) rfl eN7 (mi := 71) (pc := 22) (len := 3) (j := 504) rfl h
  have hS8 : Sh N7 := by rw [eN7]; exact hS6.put (by decide) (by decide) rfl
  replace h := eAload (mi := 71) (pc := 25) (len := 1) (i := 0) rfl rfl h
  replace h := eConst (mi := 71) (pc := 26) (len := 1) (v := 0) rfl h
  obtain ⟨N9, eN9⟩ : ∃ X_, X_ = mPut N7 130 5 (.int (0 : Int32)) := ⟨_, rfl⟩
  replace h := ePutE (a := 130) (f := 5) (N := N9) rfl eN9 (mi := 71) (pc := 27) (len := 3) (j := 505) rfl h
  have hS10 : Sh N9 := by rw [eN9]; exact hS8.put (by decide) (by decide) rfl
  replace h := eAload (mi := 71) (pc := 30) (len := 1) (i := 0) rfl rfl h
  replace h := eGetR (a := 130) (j := 500) (g := 131) hS10 (by decide) (by decide) rfl rfl rfl (mi := 71) (pc := 31) (len := 3) rfl h
  obtain ⟨r11, N12, g13, h⟩ := eCall (mi := 71) (pc := 34) (len := 3) (j := 58) (as := [.ref 131]) (rest := []) rfl (Or.inr (Or.inl rfl)) (by decide) rfl rfl h
  obtain ⟨q6, eM6⟩ := clr_en hS10 g13
  rw [q6] at h
  have emin : (if (200 : Int32) < n then (200 : Int32) else n) = n := if_neg (fun q => by have q := Int32.lt_iff_toInt_lt.mp q; have q : (200 : Int) < n.toInt := q; have := hX.1.2; omega)
  rw [emin] at eN3
  have eP : N12 = preM M n := by rw [eM6, eN9, eN7, eN5, eN3, eN1]; rfl
  have hB := pre_ok (f := f) (g := g) hS hX
  rw [← eP] at hB
  replace h := eAload (mi := 71) (pc := 37) (len := 1) (i := 0) rfl rfl h
  obtain ⟨r14, N15, g16, h⟩ := eCall (mi := 71) (pc := 38) (len := 3) (j := 76) (as := [.ref 130]) (rest := []) rfl (Or.inr (Or.inl rfl)) (by decide) rfl rfl h
  obtain ⟨j1, j2, j3, j4⟩ := clause_ok (k := 0) (P := ((0, 0, 0, 0), f, g)) (sh := 0) hB.1 hB.2.1 hB.2.2.2.1 rfl rfl hB.2.2.2.2.1 (by decide) g16
  rcases j4 with ⟨Q2, P2, sk2, er, k12, hq2, he2, hC2, eO2, eW2, ek2, le2, hg2, hp2⟩ | ⟨er, hb2⟩
  · rw [er] at h
    replace h := eIstore (mi := 71) (pc := 41) (len := 1) (i := 3) rfl (by decide) h
    exact rd_lp hX.nm1 _ _ _ _ _ _ 0 ((0, 0, 0, 0), f, g) Q2 P2 sk2 rfl rfl j1 j2 (hB.2.2.1.tr j3) rfl k12 hq2 he2 hC2 eO2 eW2 ek2 (by rw [hp2.1]; exact hB.2.2.2.2.2) (PGS.one rfl hq2 he2 hg2) h
  · rw [er] at h
    replace h := eIstore (mi := 71) (pc := 41) (len := 1) (i := 3) rfl (by decide) h
    replace h := eIload (mi := 71) (pc := 42) (len := 1) (i := 3) rfl rfl h
    rcases eIf (mi := 71) (pc := 43) (len := 3) (t := 89) rfl rfl h with ⟨c17, h⟩ | ⟨c17, h⟩
    · skip
      replace h := eIload (mi := 71) (pc := 89) (len := 1) (i := 3) rfl rfl h
      rcases eIf (mi := 71) (pc := 90) (len := 3) (t := 110) rfl rfl h with ⟨c18, h⟩ | ⟨c18, h⟩
      · skip
        replace h := eAload (mi := 71) (pc := 110) (len := 1) (i := 0) rfl rfl h
        replace h := eGetI (a := 130) (j := 505) j1 (by decide) (by decide) rfl (mi := 71) (pc := 111) (len := 3) rfl h
        obtain ⟨e1, e2⟩ := eRetI (mi := 71) (pc := 114) (len := 1) rfl h
        rw [e1, e2]
        exact ⟨j1, hB.2.2.1.tr j3, _, 0, rfl, ⟨0, ((0, 0, 0, 0), f, g), rfl, Or.inl ⟨hb2, rfl⟩⟩, fun q => absurd q (Nat.lt_irrefl 0)⟩
      · exact absurd c18 (by decide)
    · exact absurd c17 (by decide)
theorem ClQ.one {t : Int → Int} {P Q Q' : PS} (h : ClQ t P Q) (h' : ClQ t P Q') : Q = Q' := by
  rcases h with ⟨c, R, h1, h2⟩ | ⟨c, h2⟩
  · rcases h' with ⟨c', R', h1', h2'⟩ | ⟨c', h2'⟩
    · have e := Rch.one h1 h1' (Nat.le_refl 7) (Nat.le_refl 7)
      have e : R = R' := congrArg (fun q : CF => q.2.2.2) e
      rw [h2, h2', e]
    · omega
  · rcases h' with ⟨c', R', h1', h2'⟩ | ⟨c', h2'⟩
    · omega
    · rw [h2, h2']
theorem ClE.one {t : Int → Int} {P Q Q' : PS} (h : ClE t P Q) (h' : ClE t P Q') : Q = Q' := by
  obtain ⟨c, R, h1, h2⟩ := h
  obtain ⟨c', R', h1', h2'⟩ := h'
  have e := Rch.one h1 h1' (Nat.le_refl 7) (Nat.le_refl 7)
  have e : R = R' := congrArg (fun q : CF => q.2.2.2) e
  rw [h2, h2', e]
theorem RdS.one {t : Int → Int} {f g : Nat → Int} : ∀ {k : Nat} {P P' : PS}, RdS t f g k P → RdS t f g k P' → P = P'
  | 0, _, _, h, h' => Eq.trans h (Eq.symm h')
  | k + 1, _, _, ⟨A, B, C, a1, _, a2, a3, _, a5⟩, ⟨A', B', C', b1, _, b2, b3, _, b5⟩ => by
    have e := RdS.one a1 b1
    subst e
    have e := a2.one b2
    subst e
    have e := a3.one b3
    subst e
    rw [a5, b5]
/-- a machine that ends well has no fault -/
theorem Rch.nox {t : Int → Int} {c c' c'' : CF} (h : Rch t c c') (h' : Rch t c c'') (e : c'.1 = 7) (e' : c''.1 = 8) : False := by
  have q := Rch.one h h' (by omega) (by omega)
  rw [q] at e
  omega
theorem ClX.one {t : Int → Int} {Q : PS} {v v' : Int} (h : ClX t Q v) (h' : ClX t Q v') : v = v' := by
  rcases h with ⟨a, b⟩ | ⟨a, x, h1, h2, h3⟩
  · rcases h' with ⟨a', b'⟩ | ⟨a', _⟩
    · rw [b, b']
    · exact absurd a' a
  · rcases h' with ⟨a', b'⟩ | ⟨a', x', h1', h2', h3'⟩
    · exact absurd a a'
    · have e := Rch.one h1 h1' (by omega) (by omega)
      rw [← h3, ← h3', e]
theorem ClX.no {t : Int → Int} {Q P' : PS} {v : Int} (h : ClX t Q v) (h' : ClE t Q P') : False := by
  obtain ⟨c, R, h1, _⟩ := h'
  rcases h with ⟨a, _⟩ | ⟨_, x, h2, h3, _⟩
  · exact a c
  · exact h1.nox h2 rfl h3
theorem ClB.one {t : Int → Int} {k : Nat} {P : PS} {v v' : Int} (h : ClB t k P v) (h' : ClB t k P v') : v = v' := by
  rcases h with ⟨a, b⟩ | ⟨a, b, c⟩ | ⟨a, b, c⟩
  · rcases h' with ⟨a', b'⟩ | ⟨a', b', c'⟩ | ⟨a', b', c'⟩
    · rw [b, b']
    · exact absurd a' a
    · exact absurd a' a
  · rcases h' with ⟨a', b'⟩ | ⟨a', b', c'⟩ | ⟨a', b', c'⟩
    · exact absurd a a'
    · rw [c, c']
    · omega
  · rcases h' with ⟨a', b'⟩ | ⟨a', b', c'⟩ | ⟨a', b', c'⟩
    · exact absurd a a'
    · omega
    · rcases c with ⟨y, x, h1, h2, h3⟩ | ⟨Q, q1, q2⟩
      · rcases c' with ⟨y', x', h1', h2', h3'⟩ | ⟨Q', q1', q2'⟩
        · have e := Rch.one h1 h1' (by omega) (by omega)
          rw [← h3, ← h3', e]
        · exfalso
          rcases q1' with ⟨_, R, r1, _⟩ | ⟨z, _⟩
          · exact r1.nox h1 rfl h2
          · omega
      · rcases c' with ⟨y', x', h1', h2', h3'⟩ | ⟨Q', q1', q2'⟩
        · exfalso
          rcases q1 with ⟨_, R, r1, _⟩ | ⟨z, _⟩
          · exact r1.nox h1' rfl h2'
          · omega
        · have e := q1.one q1'
          subst e
          exact q2.one q2'
theorem ClB.no {t : Int → Int} {k : Nat} {P Q P' : PS} {v : Int} (h : ClB t k P v) (hk : k < 12) (h1 : ClQ t P Q) (h2 : ClE t Q P') : False := by
  have lx : (t P.1.1 = 98 ∨ t P.1.1 = 115 ∨ t P.1.1 = 121) := by
    rcases h1 with ⟨y, _⟩ | ⟨y, _⟩ <;> omega
  rcases h with ⟨a, _⟩ | ⟨_, b, _⟩ | ⟨_, _, ⟨y, x, r1, r2, _⟩ | ⟨Q', q1, q2⟩⟩
  · exact a lx
  · omega
  · rcases h1 with ⟨_, R, r, _⟩ | ⟨z, _⟩
    · exact r.nox r1 rfl r2
    · omega
  · have e := q1.one h1
    subst e
    exact q2.no h2
/-- earlier clauses were read well -/
theorem RdS.at {t : Int → Int} {f g : Nat → Int} : ∀ {k j : Nat} {P : PS}, RdS t f g k P → j < k → ∃ P0 Q P1, RdS t f g j P0 ∧ j < 12 ∧ ClQ t P0 Q ∧ ClE t Q P1 ∧ t P1.1.1 = 59
  | 0, _, _, _, hj => absurd hj (Nat.not_lt_zero _)
  | k + 1, j, _, ⟨A, B, C, a1, a0, a2, a3, a4, _⟩, hj => by
    by_cases e : j = k
    · subst e
      exact ⟨A, B, C, a1, a0, a2, a3, a4⟩
    · exact RdS.at a1 (by omega)
theorem RdE.lt {t : Int → Int} {f g : Nat → Int} {k k' : Nat} {P P' : PS} {v : Int} {c : Nat} (h : RdS t f g k P) (hh : (ClB t k P v ∧ c = 0) ∨ ∃ Q P1, k < 12 ∧ ClQ t P Q ∧ ClE t Q P1 ∧ ¬ t P1.1.1 = 59 ∧ ((¬ t P1.1.1 = -1 ∧ v = -1000 * 1 - P1.1.1 ∧ c = 0) ∨ (t P1.1.1 = -1 ∧ v = 0 ∧ c = k + 1))) (h' : RdS t f g k' P') : ¬ k < k' := by
  intro hk
  obtain ⟨A, B, C, a1, a0, a2, a3, a4⟩ := h'.at hk
  have e := a1.one h
  subst e
  rcases hh with ⟨b, _⟩ | ⟨Q, P1, _, b2, b3, b4, _⟩
  · exact b.no a0 a2 a3
  · have e := a2.one b2
    subst e
    have e := a3.one b3
    subst e
    exact b4 a4
theorem RdE.one {t : Int → Int} {f g : Nat → Int} {v v' : Int} {c c' : Nat} (h : RdE t f g v c) (h' : RdE t f g v' c') : v = v' ∧ c = c' := by
  obtain ⟨k, P, h1, h2⟩ := h
  obtain ⟨k', P', h1', h2'⟩ := h'
  have n1 := RdE.lt h1 h2 h1'
  have n2 := RdE.lt h1' h2' h1
  have e : k = k' := by omega
  subst e
  have e := h1.one h1'
  subst e
  rcases h2 with ⟨a, b⟩ | ⟨Q, P1, a0, a1, a2, a3, a4⟩
  · rcases h2' with ⟨a', b'⟩ | ⟨Q', P1', a0', a1', a2', _⟩
    · exact ⟨a.one a', by omega⟩
    · exact (a.no a0' a1' a2').elim
  · rcases h2' with ⟨a', b'⟩ | ⟨Q', P1', a0', a1', a2', a3', a4'⟩
    · exact (a'.no a0 a1 a2).elim
    · have e := a1.one a1'
      subst e
      have e := a2.one a2'
      subst e
      rcases a4 with ⟨u1, u2, u3⟩ | ⟨u1, u2, u3⟩
      · rcases a4' with ⟨w1, w2, w3⟩ | ⟨w1, w2, w3⟩
        · exact ⟨by omega, by omega⟩
        · exact absurd w1 u1
      · rcases a4' with ⟨w1, w2, w3⟩ | ⟨w1, w2, w3⟩
        · exact absurd u1 w1
        · exact ⟨by omega, by omega⟩

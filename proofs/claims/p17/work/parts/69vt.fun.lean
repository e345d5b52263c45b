/-! the reference's law: the text (printed by fn22.py) -/
theorem sm_cd {t : Int → Int} (c : CF) : c.2.2.2.1.2.2.1 ≤ (sm t c).2.2.2.1.2.2.1 := by
  obtain ⟨m, b, h, r⟩ := c
  match m with
  | 0 =>
    show r.1.2.2.1 ≤ (sF t b h r).2.2.2.1.2.2.1
    unfold sF
    repeat' split
    all_goals first | exact Nat.le_refl _ | exact Nat.le_succ _
  | 1 =>
    show r.1.2.2.1 ≤ (sA t b h r).2.2.2.1.2.2.1
    unfold sA
    repeat' split
    all_goals first | exact Nat.le_refl _ | exact Nat.le_succ _
  | 2 =>
    show r.1.2.2.1 ≤ (sP t r).2.2.2.1.2.2.1
    unfold sP
    repeat' split
    all_goals first | exact Nat.le_refl _ | exact Nat.le_succ _
  | 3 =>
    show r.1.2.2.1 ≤ (sE r).2.2.2.1.2.2.1
    unfold sE
    repeat' split
    all_goals first | exact Nat.le_refl _ | exact Nat.le_succ _
  | 4 =>
    show r.1.2.2.1 ≤ (sQ t r).2.2.2.1.2.2.1
    unfold sQ
    repeat' split
    all_goals first | exact Nat.le_refl _ | exact Nat.le_succ _
  | m + 5 => exact Nat.le_refl _
theorem Rch.cd {t : Int → Int} {c c' : CF} (h : Rch t c c') : c.2.2.2.1.2.2.1 ≤ c'.2.2.2.1.2.2.1 := by
  obtain ⟨k, hk⟩ := h
  rw [← hk]
  clear hk
  induction k generalizing c with
  | zero => exact Nat.le_refl _
  | succ k ih => exact Nat.le_trans (sm_cd c) (ih (c := sm t c))
theorem ClQ.cd {t : Int → Int} {P Q : PS} (h : ClQ t P Q) : P.1.2.2.1 ≤ Q.1.2.2.1 := by
  rcases h with ⟨_, R, h1, h2⟩ | ⟨_, h2⟩
  · have q := h1.cd
    rw [h2]
    exact q
  · rw [h2]
    exact Nat.le_refl _
theorem ClE.cd {t : Int → Int} {P Q : PS} (h : ClE t P Q) : P.1.2.2.1 ≤ Q.1.2.2.1 := by
  obtain ⟨_, R, h1, h2⟩ := h
  have q := h1.cd
  rw [h2]
  exact q
/-- all clauses read by now, as the reference keeps them -/
def RGS (t : Int → Int) (f g : Nat → Int) (M : Mem) (k cs : Nat) : Prop := ∀ j, j < k → ∃ P Q E, RdS t f g j P ∧ ClQ t P Q ∧ ClE t Q E ∧ RG M j (t P.1.1) P.1.2.2.1 Q.1.2.2.1 E.1.2.2.1 ∧ E.1.2.2.1 ≤ cs
/-- the reference's answer to a text -/
def LRO (t : Int → Int) (f g : Nat → Int) (M0 : Mem) (i : Nat) (r : Option Value) (M1 : Mem) : Prop := Sh M1 ∧ RZ M0 M1 ∧ (iv M1 181 25).toInt = 0 ∧ ∃ x : Int32, r = some (.int x) ∧ ((RdE t f g x.toInt 0 ∧ ∀ c j, 208 < c → mSlot M1 c j = mSlot M0 c j) ∨ ∃ k P Q P1 Mx, RdE t f g 0 (k + 1) ∧ x.toInt = (k : Int) + 1 ∧ RdS t f g k P ∧ k < 12 ∧ ClQ t P Q ∧ ClE t Q P1 ∧ RC Mx P1 ∧ RGS t f g Mx (k + 1) P1.1.2.2.1 ∧ (iv Mx 181 32).toInt = (k : Int) + 1 ∧ RY M0 Mx ∧ RLK Mx M1 i)
theorem RG.keep {M M' : Mem} {j : Nat} {c : Int} {a b e : Nat} (h : RG M j c a b e) (q : iv M' 205 j = iv M 205 j ∧ iv M' 206 j = iv M 206 j ∧ iv M' 207 j = iv M 207 j ∧ iv M' 208 j = iv M 208 j) : RG M' j c a b e := ⟨by rw [q.1]; exact h.1, by rw [q.2.1]; exact h.2.1, by rw [q.2.2.1]; exact h.2.2.1, by rw [q.2.2.2]; exact h.2.2.2⟩
theorem tk_en {c : Int32} {n d : Nat} {M : Mem} {r : Option Value} {M1 : Mem} (hS : Sh M) (h : En n d 195 0 (lv_args 0 [.ref 181, .int c]) [] M r M1) : ((hereV M).toInt = c.toInt ∧ r = some (.int 1) ∧ M1 = mPut M 181 26 (.int (iv M 181 26 + 1))) ∨ (¬ (hereV M).toInt = c.toInt ∧ r = some (.int 0) ∧ M1 = mPut M 181 28 (.int ((-1000) * (1 : Int32) - iv M 181 26))) := by
  replace h := eAload (mi := 195) (pc := 0) (len := 1) (i := 0) rfl rfl h
  replace h := eCallP (mi := 195) (pc := 1) (len := 3) (j := 192) (as := [.ref 181]) (rest := []) rfl (Or.inr (Or.inl rfl)) (by decide) rfl rfl (fun _ _ _ _ g => hereV_en hS g) h
  replace h := eIload (mi := 195) (pc := 4) (len := 1) (i := 1) rfl rfl h
  rcases eIc (mi := 195) (pc := 5) (len := 3) (t := 18) rfl rfl h with ⟨c1, h⟩ | ⟨c1, h⟩
  · replace c1 : (hereV M).toInt = c.toInt := mC_eq.1 c1
    replace h := eAload (mi := 195) (pc := 18) (len := 1) (i := 0) rfl rfl h
    replace h := eAload (mi := 195) (pc := 19) (len := 1) (i := 0) rfl rfl h
    replace h := eGetI (a := 181) (j := 1126) hS (by decide) (by decide) rfl (mi := 195) (pc := 20) (len := 3) rfl h
    replace h := eConst (mi := 195) (pc := 23) (len := 1) (v := 1) rfl h
    replace h := eAdd (mi := 195) (pc := 24) (len := 1) rfl h
    obtain ⟨N2, eN2⟩ : ∃ X_, X_ = mPut M 181 26 (.int ((iv M 181 26) + (1 : Int32))) := ⟨_, rfl⟩
    replace h := ePutE (a := 181) (f := 26) (N := N2) rfl eN2 (mi := 195) (pc := 25) (len := 3) (j := 1126) rfl h
    have hS3 : Sh N2 := by rw [eN2]; exact hS.put (by decide) (by decide) rfl
    replace h := eConst (mi := 195) (pc := 28) (len := 1) (v := 1) rfl h
    obtain ⟨e1, e2⟩ := eRetI (mi := 195) (pc := 29) (len := 1) rfl h
    rw [e2]
    rw [eN2]
    exact Or.inl ⟨c1, e1, rfl⟩
  · replace c1 : ¬ (hereV M).toInt = c.toInt := mC_eq.2 c1
    replace h := eAload (mi := 195) (pc := 8) (len := 1) (i := 0) rfl rfl h
    replace h := eConst (mi := 195) (pc := 9) (len := 1) (v := 1) rfl h
    replace h := eAload (mi := 195) (pc := 10) (len := 1) (i := 0) rfl rfl h
    replace h := eGetI (a := 181) (j := 1126) hS (by decide) (by decide) rfl (mi := 195) (pc := 11) (len := 3) rfl h
    obtain ⟨r4, N5, g6, h⟩ := eCall (mi := 195) (pc := 14) (len := 3) (j := 194) (as := [.ref 181, .int (1 : Int32), .int (iv M 181 26)]) (rest := []) rfl (Or.inr (Or.inl rfl)) (by decide) rfl rfl h
    obtain ⟨q1, q2⟩ := wr_en hS g6
    rw [q1] at h
    obtain ⟨e1, e2⟩ := eRetI (mi := 195) (pc := 17) (len := 1) rfl h
    rw [e2]
    exact Or.inr ⟨c1, e1, q2⟩
theorem hy210 {M0 M M1 : Mem} (h : RY M0 M) (h2 : RZ M M1) (h3 : ∀ c j, 208 < c → mSlot M1 c j = mSlot M c j) (c j : Nat) (hc : 208 < c) : mSlot M1 c j = mSlot M0 c j := (h3 c j hc).trans (h c j (fun q => absurd q (by omega)) (Or.inr hc))
theorem lw_lp {t : Int → Int} {f g : Nat → Int} {N : Int} {M0 : Mem} {i : Int32} {d : Nat} (hn : N ≤ 160) (i0 : 0 ≤ i.toInt) (i2 : i.toInt ≤ 2) (nm1 : ∀ p : Int, 0 ≤ p → p < N → ¬ t p = -1) : ∀ (n : Nat) (L : MLoc) (M : Mem) (r : Option Value) (M1 : Mem) (k : Nat) (P Q P1 : PS), mLd L 0 = some (.ref 181) → mLd L 1 = some (.int i) → mLd L 3 = some (.int 1) → RC M P1 → KI N P1 → (P1.1.2.1 = 0 ∧ P1.1.2.2.2 = 0) → RT M t N → RY M0 M → RdS t f g k P → k < 12 → ClQ t P Q → ClE t Q P1 → (iv M 181 32).toInt = (k : Int) + 1 → RGS t f g M (k + 1) P1.1.2.2.1 → En n d 212 55 L [] M r M1 → LRO t f g M0 i.toInt.toNat r M1 := by
  intro n
  induction n with
  | zero => intro L M r M1 k P Q P1 _ _ _ _ _ _ _ _ _ _ _ _ _ _ h; exact (En.zero (mi := 212) (pc := 55) (len := 1) rfl h).elim
  | succ n ih =>
    intro L M r M1 k P Q P1 l0 l1 l3 hR hI hz hT hy hs hk hq he ek hg h
    replace h := eIloadS (mi := 212) (pc := 55) (len := 1) (i := 3) rfl l3 h
    rcases eIf (mi := 212) (pc := 56) (len := 3) (t := 95) rfl rfl h with ⟨c1, h⟩ | ⟨c1, h⟩
    · exact absurd c1 (by decide)
    · skip
      replace h := eAload (mi := 212) (pc := 59) (len := 1) (i := 0) rfl l0 h
      replace h := eGetI (a := 181) (j := 1126) hR.1 (by decide) (by decide) rfl (mi := 212) (pc := 60) (len := 3) rfl h
      replace h := eAload (mi := 212) (pc := 63) (len := 1) (i := 0) rfl l0 h
      replace h := eGetI (a := 181) (j := 1127) hR.1 (by decide) (by decide) rfl (mi := 212) (pc := 64) (len := 3) rfl h
      rcases eIc (mi := 212) (pc := 67) (len := 3) (t := 95) rfl rfl h with ⟨c2, h⟩ | ⟨c2, h⟩
      · replace c2 : ¬ (iv M 181 26).toInt < (iv M 181 27).toInt := mC_ge.1 c2
        have ts : t P1.1.1 = -1 := hT.2.2.2 _ (by have q := c2; rw [hR.2.1, hT.1] at q; omega)
        have cb : P1.1.2.2.1 ≤ 180 := hR.2.2.2.1
        obtain ⟨j1, j2, j3, j4, j5⟩ := law_95 i0 i2 (by rw [hR.2.2.1]; omega) (by rw [ek]; omega) (fun j hj => by
          obtain ⟨A, B, E, a1, a2, a3, ⟨_, w2, w3, w4⟩, a5⟩ := hg j (by rw [ek] at hj; omega)
          have := a2.cd
          have := a3.cd
          rw [w2, w3, w4]
          omega) l0 l1 l3 hR.1 h
        refine ⟨j1, hy.z.tr j3, j4, _, j2, Or.inr ⟨k, P, Q, P1, M, ?_, ek, hs, hk, hq, he, hR, hg, ek, hy, j5⟩⟩
        exact ⟨k, P, hs, Or.inr ⟨Q, P1, hk, hq, he, by rw [ts]; decide, Or.inr ⟨ts, rfl, rfl⟩⟩⟩
      · replace c2 : (iv M 181 26).toInt < (iv M 181 27).toInt := mC_ge.2 c2
        replace h := eAload (mi := 212) (pc := 70) (len := 1) (i := 0) rfl l0 h
        replace h := eConst (mi := 212) (pc := 71) (len := 2) (v := 59) rfl h
        obtain ⟨r3, N4, g5, h⟩ := eCall (mi := 212) (pc := 73) (len := 3) (j := 195) (as := [.ref 181, .int (59 : Int32)]) (rest := []) rfl (Or.inr (Or.inl rfl)) (by decide) rfl rfl h
        have lt : P1.1.1 < N := by have q := c2; rw [hR.2.1, hT.1] at q; exact q
        have th : (hereV M).toInt = t P1.1.1 := here_c hR hT hI.1.1
        rcases tk_en hR.1 g5 with ⟨q1, q2, q3⟩ | ⟨q1, q2, q3⟩
        · rw [q2] at h
          have ts : t P1.1.1 = 59 := th.symm.trans q1
          have R2 : RC N4 (pAdv P1) := by rw [q3]; exact hR.p26 (p := P1.1.1 + 1) (ic1 hR.2.1 (by show -1000 ≤ P1.1.1; have := hI.1.1; omega) (by show P1.1.1 ≤ 1000; omega))
          have X2 : RY M N4 := by rw [q3]; exact RY.put (Or.inl ⟨rfl, by decide⟩)
          have I2 : KI N (pAdv P1) := ⟨⟨by show 0 ≤ P1.1.1 + 1; have := hI.1.1; omega, by show P1.1.1 + 1 ≤ N; omega⟩, by show (P1.1.2.2.1 : Int) ≤ 2 * (P1.1.1 + 1); have := hI.2.1; omega, hI.2.2⟩
          have n2 : ∀ c x, c ≠ 181 → iv N4 c x = iv M c x := fun c x q => by rw [q3]; exact iv_put_ne (Or.inl q)
          have e2k : (iv N4 181 32).toInt = ((k + 1 : Nat) : Int) := by rw [q3, iv_put_ne (Or.inr (by decide))]; exact ek
          have hs2 : RdS t f g (k + 1) (pAdv P1) := ⟨P, Q, P1, hs, hk, hq, he, ts, rfl⟩
          rcases eIf (mi := 212) (pc := 76) (len := 3) (t := 90) rfl rfl h with ⟨c6, h⟩ | ⟨c6, h⟩
          · exact absurd c6 (by decide)
          · skip
            replace h := eAload (mi := 212) (pc := 79) (len := 1) (i := 0) rfl l0 h
            obtain ⟨r7, N8, g9, h⟩ := eCall (mi := 212) (pc := 80) (len := 3) (j := 211) (as := [.ref 181]) (rest := []) rfl (Or.inr (Or.inl rfl)) (by decide) rfl rfl h
            obtain ⟨X3, hF⟩ := rcl_ok (k := k + 1) hn R2 hz (hT.y X2) I2 e2k (by omega) g9
            rcases hF with ⟨Q3, P3, q4, k12, hq3, he3, R3, I3, z3, e3k, g3, o3⟩ | ⟨q4, S4, B4⟩
            · rw [q4] at h
              rcases eIf (mi := 212) (pc := 83) (len := 3) (t := 90) rfl rfl h with ⟨c10, h⟩ | ⟨c10, h⟩
              · exact absurd c10 (by decide)
              · skip
                replace h := eConst (mi := 212) (pc := 86) (len := 1) (v := 1) rfl h
                replace h := eGoto (mi := 212) (pc := 87) (len := 3) (t := 91) rfl rfl h
                replace h := eIstore (mi := 212) (pc := 91) (len := 1) (i := 3) rfl (by decide) h
                replace h := eGoto (mi := 212) (pc := 92) (len := 3) (t := 55) rfl rfl h
                have hg3 : RGS t f g N8 (k + 1 + 1) P3.1.2.2.1 := by
                  intro j hj
                  by_cases q : j = k + 1
                  · subst q
                    exact ⟨pAdv P1, Q3, P3, hs2, hq3, he3, g3, Nat.le_refl _⟩
                  · obtain ⟨A, B, E, a1, a2, a3, a4, a5⟩ := hg j (by omega)
                    have c1 : P1.1.2.2.1 ≤ Q3.1.2.2.1 := hq3.cd
                    have c2 := he3.cd
                    obtain ⟨w1, w2, w3, w4⟩ := o3 j q
                    exact ⟨A, B, E, a1, a2, a3, a4.keep ⟨w1.trans (n2 205 j (by decide)), w2.trans (n2 206 j (by decide)), w3.trans (n2 207 j (by decide)), w4.trans (n2 208 j (by decide))⟩, by omega⟩
                exact ih _ _ _ _ (k + 1) (pAdv P1) Q3 P3 (mLd_st1_ref (by decide) l0) (mLd_st1_int (by decide) l1) mLd_st1_i R3 I3 z3 ((hT.y X2).y X3) ((hy.tr X2).tr X3) hs2 k12 hq3 he3 e3k hg3 h
            · rw [q4] at h
              have hE : RdE t f g (iv N8 181 28).toInt 0 := ⟨k + 1, pAdv P1, hs2, Or.inl ⟨B4, rfl⟩⟩
              rcases eIf (mi := 212) (pc := 83) (len := 3) (t := 90) rfl rfl h with ⟨c11, h⟩ | ⟨c11, h⟩
              · skip
                replace h := eConst (mi := 212) (pc := 90) (len := 1) (v := 0) rfl h
                replace h := eIstore (mi := 212) (pc := 91) (len := 1) (i := 3) rfl (by decide) h
                replace h := eGoto (mi := 212) (pc := 92) (len := 3) (t := 55) rfl rfl h
                replace h := eIload (mi := 212) (pc := 55) (len := 1) (i := 3) rfl mLd_st1_i h
                rcases eIf (mi := 212) (pc := 56) (len := 3) (t := 95) rfl rfl h with ⟨c12, h⟩ | ⟨c12, h⟩
                · skip
                  obtain ⟨j1, j2, j3, j4, j5⟩ := law_95f (mLd_st1_ref (by decide) l0) mLd_st1_i S4 h
                  refine ⟨j1, ((hy.tr X2).tr X3).z.tr j3, j4, _, j2, Or.inl ⟨hE, fun c j hc => ?_⟩⟩
                  exact hy210 ((hy.tr X2).tr X3) j3 j5 c j hc
                · exact absurd c12 (by decide)
              · exact absurd c11 (by decide)
        · rw [q2] at h
          have S2 : Sh N4 := by rw [q3]; exact hR.1.put (by decide) (by decide) rfl
          have X2 : RY M N4 := by rw [q3]; exact RY.put (Or.inl ⟨rfl, by decide⟩)
          have v9 := wr_v (k := 1) hR.1 hR.2.1 hI.1.1 (by have := hI.1.2; omega) (by decide) (by decide) q3
          have n59 : ¬ t P1.1.1 = 59 := fun q => q1 (th.trans q)
          have hE : RdE t f g (iv N4 181 28).toInt 0 := ⟨k, P, hs, Or.inr ⟨Q, P1, hk, hq, he, n59, Or.inl ⟨nm1 P1.1.1 hI.1.1 lt, v9, rfl⟩⟩⟩
          rcases eIf (mi := 212) (pc := 76) (len := 3) (t := 90) rfl rfl h with ⟨c13, h⟩ | ⟨c13, h⟩
          · skip
            replace h := eConst (mi := 212) (pc := 90) (len := 1) (v := 0) rfl h
            replace h := eIstore (mi := 212) (pc := 91) (len := 1) (i := 3) rfl (by decide) h
            replace h := eGoto (mi := 212) (pc := 92) (len := 3) (t := 55) rfl rfl h
            replace h := eIload (mi := 212) (pc := 55) (len := 1) (i := 3) rfl mLd_st1_i h
            rcases eIf (mi := 212) (pc := 56) (len := 3) (t := 95) rfl rfl h with ⟨c14, h⟩ | ⟨c14, h⟩
            · skip
              obtain ⟨j1, j2, j3, j4, j5⟩ := law_95f (mLd_st1_ref (by decide) l0) mLd_st1_i S2 h
              refine ⟨j1, (hy.tr X2).z.tr j3, j4, _, j2, Or.inl ⟨hE, fun c j hc => ?_⟩⟩
              exact hy210 (hy.tr X2) j3 j5 c j hc
            · exact absurd c14 (by decide)
          · exact absurd c13 (by decide)
theorem lr_50 {t : Int → Int} {f g : Nat → Int} {N : Int} {M0 M : Mem} {i : Int32} {n d : Nat} {L : MLoc} {r : Option Value} {M1 : Mem} (i0 : 0 ≤ i.toInt) (i2 : i.toInt ≤ 2) (nm1 : ∀ p : Int, 0 ≤ p → p < N → ¬ t p = -1) (l0 : mLd L 0 = some (.ref 181)) (l1 : mLd L 1 = some (.int i)) (R2 : RC M ((0, 0, 0, 0), f, g)) (hT : RT M t N) (I2 : KI N ((0, 0, 0, 0), f, g)) (hy : RY M0 M) (e2k : (iv M 181 32).toInt = ((0 : Nat) : Int)) (h : En n d 212 50 L [] M r M1) : LRO t f g M0 i.toInt.toNat r M1 := by
  replace h := eAload (mi := 212) (pc := 50) (len := 1) (i := 0) rfl l0 h
  obtain ⟨r1, N2, g3, h⟩ := eCall (mi := 212) (pc := 51) (len := 3) (j := 211) (as := [.ref 181]) (rest := []) rfl (Or.inr (Or.inl rfl)) (by decide) rfl rfl h
  obtain ⟨X3, hF⟩ := rcl_ok (k := 0) hT.2.1 R2 ⟨rfl, rfl⟩ hT I2 e2k (by decide) g3
  rcases hF with ⟨Q3, P3, q4, k12, hq3, he3, R3, I3, z3, e3k, g3, o3⟩ | ⟨q4, S4, B4⟩
  · rw [q4] at h
    replace h := eIstore (mi := 212) (pc := 54) (len := 1) (i := 3) rfl (by decide) h
    exact lw_lp hT.2.1 i0 i2 nm1 _ _ _ _ _ 0 ((0, 0, 0, 0), f, g) Q3 P3 (mLd_st1_ref (by decide) l0) (mLd_st1_int (by decide) l1) mLd_st1_i R3 I3 z3 (hT.y X3) (hy.tr X3) rfl k12 hq3 he3 e3k (fun j hj => by have e : j = 0 := (by omega); subst e; exact ⟨_, Q3, P3, rfl, hq3, he3, g3, Nat.le_refl _⟩) h
  · rw [q4] at h
    have hE : RdE t f g (iv N2 181 28).toInt 0 := ⟨0, ((0, 0, 0, 0), f, g), rfl, Or.inl ⟨B4, rfl⟩⟩
    replace h := eIstore (mi := 212) (pc := 54) (len := 1) (i := 3) rfl (by decide) h
    replace h := eIload (mi := 212) (pc := 55) (len := 1) (i := 3) rfl mLd_st1_i h
    rcases eIf (mi := 212) (pc := 56) (len := 3) (t := 95) rfl rfl h with ⟨c4, h⟩ | ⟨c4, h⟩
    · skip
      obtain ⟨j1, j2, j3, j4, j5⟩ := law_95f (mLd_st1_ref (by decide) l0) mLd_st1_i S4 h
      refine ⟨j1, (hy.tr X3).z.tr j3, j4, _, j2, Or.inl ⟨hE, fun c j hc => ?_⟩⟩
      exact hy210 (hy.tr X3) j3 j5 c j hc
    · exact absurd c4 (by decide)
/-- the first n bytes of the tape, as the reference has them; what its workplaces hold -/
def RTX (M : Mem) (t : Int → Int) (f g : Nat → Int) (n : Int) : Prop := (∀ k : Nat, (k : Int) < n → ((iv M 202 k) &&& (255 : Int32)).toInt = t k ∧ 0 ≤ t k) ∧ (∀ k : Int, n ≤ k → t k = -1) ∧ (∀ k, (iv M 203 k).toInt = f k) ∧ ∀ k, (iv M 204 k).toInt = g k
theorem rIn160_true {x : Int32} (h : rIn x 1 160 = true) : 1 ≤ x.toInt ∧ x.toInt ≤ 160 := by
  unfold rIn at h
  by_cases a : x.toInt < 1
  · rw [decide_eq_true (show x.toInt < (1 : Int32).toInt from a)] at h
    cases h
  · rw [decide_eq_false (show ¬ x.toInt < (1 : Int32).toInt from a)] at h
    by_cases b : 160 < x.toInt
    · rw [decide_eq_true (show (160 : Int32).toInt < x.toInt from b)] at h
      cases h
    · omega
theorem rIn_of160 {x : Int32} (h : 1 ≤ x.toInt ∧ x.toInt ≤ 160) : rIn x 1 160 = true := by
  unfold rIn
  rw [decide_eq_false (show ¬ x.toInt < (1 : Int32).toInt from by show ¬ x.toInt < 1; omega), decide_eq_false (show ¬ (160 : Int32).toInt < x.toInt from by show ¬ 160 < x.toInt; omega)]
  rfl
theorem rIn2_of {x : Int32} (h : rIn x 0 2 = true) : 0 ≤ x.toInt ∧ x.toInt < 3 := bIn_true ((rIn_eq2 x).symm.trans h)
theorem rIn_of2 {x : Int32} (h : 0 ≤ x.toInt ∧ x.toInt < 3) : rIn x 0 2 = true := by
  unfold rIn
  rw [decide_eq_false (show ¬ x.toInt < (0 : Int32).toInt from by show ¬ x.toInt < 0; omega), decide_eq_false (show ¬ (2 : Int32).toInt < x.toInt from by show ¬ 2 < x.toInt; omega)]
  rfl
theorem lawR_en {t : Int → Int} {f g : Nat → Int} {i n : Int32} {k d : Nat} {M : Mem} {r : Option Value} {M1 : Mem} (hS : Sh M) (hX : (1 ≤ n.toInt ∧ n.toInt ≤ 160) ∧ n.toInt ≤ (iv M 181 25).toInt → RTX M t f g n.toInt) (h : En k d 212 0 (lv_args 0 [.ref 181, .int i, .int n]) [] M r M1) : (¬ ((0 ≤ i.toInt ∧ i.toInt < 3) ∧ (1 ≤ n.toInt ∧ n.toInt ≤ 160) ∧ n.toInt ≤ (iv M 181 25).toInt) ∧ r = some (.int (-1)) ∧ M1 = M) ∨ ((0 ≤ i.toInt ∧ i.toInt < 3) ∧ (1 ≤ n.toInt ∧ n.toInt ≤ 160) ∧ n.toInt ≤ (iv M 181 25).toInt ∧ ∃ M2, LRO t f g M2 i.toInt.toNat r M1 ∧ RZ M M2 ∧ ∀ c x, c ≠ 181 → mSlot M2 c x = mSlot M c x) := by
  replace h := eIload (mi := 212) (pc := 0) (len := 1) (i := 1) rfl rfl h
  replace h := eConst (mi := 212) (pc := 1) (len := 1) (v := 0) rfl h
  replace h := eConst (mi := 212) (pc := 2) (len := 1) (v := 2) rfl h
  replace h := eCallP (mi := 212) (pc := 3) (len := 3) (j := 160) (as := [.int i, .int (0 : Int32), .int (2 : Int32)]) (rest := []) rfl (Or.inl rfl) (by decide) rfl rfl (fun _ _ _ _ g => rIn_en hS g) h
  rcases eIf (mi := 212) (pc := 6) (len := 3) (t := 28) rfl rfl h with ⟨c1, h⟩ | ⟨c1, h⟩
  · replace c1 : rIn i (0 : Int32) (2 : Int32) = false := mB_eq.1 c1
    replace h := eConst (mi := 212) (pc := 28) (len := 1) (v := (-1)) rfl h
    obtain ⟨e1, e2⟩ := eRetI (mi := 212) (pc := 29) (len := 1) rfl h
    exact Or.inl ⟨(fun q => by have q1 := q.1; have q2 := q.2.1; have q3 := q.2.2; rw [rIn_of2 q1] at c1; cases c1), e1, e2⟩
  · replace c1 : rIn i (0 : Int32) (2 : Int32) = true := mB_eq.2 c1
    replace h := eIload (mi := 212) (pc := 9) (len := 1) (i := 2) rfl rfl h
    replace h := eConst (mi := 212) (pc := 10) (len := 1) (v := 1) rfl h
    replace h := eConst (mi := 212) (pc := 11) (len := 3) (v := 160) rfl h
    replace h := eCallP (mi := 212) (pc := 14) (len := 3) (j := 160) (as := [.int n, .int (1 : Int32), .int (160 : Int32)]) (rest := []) rfl (Or.inl rfl) (by decide) rfl rfl (fun _ _ _ _ g => rIn_en hS g) h
    rcases eIf (mi := 212) (pc := 17) (len := 3) (t := 28) rfl rfl h with ⟨c2, h⟩ | ⟨c2, h⟩
    · replace c2 : rIn n (1 : Int32) (160 : Int32) = false := mB_eq.1 c2
      replace h := eConst (mi := 212) (pc := 28) (len := 1) (v := (-1)) rfl h
      obtain ⟨e1, e2⟩ := eRetI (mi := 212) (pc := 29) (len := 1) rfl h
      exact Or.inl ⟨(fun q => by have q1 := q.1; have q2 := q.2.1; have q3 := q.2.2; rw [rIn_of160 q2] at c2; cases c2), e1, e2⟩
    · replace c2 : rIn n (1 : Int32) (160 : Int32) = true := mB_eq.2 c2
      replace h := eIload (mi := 212) (pc := 20) (len := 1) (i := 2) rfl rfl h
      replace h := eAload (mi := 212) (pc := 21) (len := 1) (i := 0) rfl rfl h
      replace h := eGetI (a := 181) (j := 1125) hS (by decide) (by decide) rfl (mi := 212) (pc := 22) (len := 3) rfl h
      rcases eIc (mi := 212) (pc := 25) (len := 3) (t := 30) rfl rfl h with ⟨c3, h⟩ | ⟨c3, h⟩
      · replace c3 : ¬ (iv M 181 25).toInt < n.toInt := mC_le.1 c3
        replace h := eAload (mi := 212) (pc := 30) (len := 1) (i := 0) rfl rfl h
        replace h := eConst (mi := 212) (pc := 31) (len := 1) (v := 0) rfl h
        obtain ⟨N4, eN4⟩ : ∃ X_, X_ = mPut M 181 26 (.int (0 : Int32)) := ⟨_, rfl⟩
        replace h := ePutE (a := 181) (f := 26) (N := N4) rfl eN4 (mi := 212) (pc := 32) (len := 3) (j := 1126) rfl h
        have hS5 : Sh N4 := by rw [eN4]; exact hS.put (by decide) (by decide) rfl
        replace h := eAload (mi := 212) (pc := 35) (len := 1) (i := 0) rfl rfl h
        replace h := eIload (mi := 212) (pc := 36) (len := 1) (i := 2) rfl rfl h
        obtain ⟨N6, eN6⟩ : ∃ X_, X_ = mPut N4 181 27 (.int n) := ⟨_, rfl⟩
        replace h := ePutE (a := 181) (f := 27) (N := N6) rfl eN6 (mi := 212) (pc := 37) (len := 3) (j := 1127) rfl h
        have hS7 : Sh N6 := by rw [eN6]; exact hS5.put (by decide) (by decide) rfl
        replace h := eAload (mi := 212) (pc := 40) (len := 1) (i := 0) rfl rfl h
        replace h := eConst (mi := 212) (pc := 41) (len := 1) (v := 0) rfl h
        obtain ⟨N8, eN8⟩ : ∃ X_, X_ = mPut N6 181 30 (.int (0 : Int32)) := ⟨_, rfl⟩
        replace h := ePutE (a := 181) (f := 30) (N := N8) rfl eN8 (mi := 212) (pc := 42) (len := 3) (j := 1130) rfl h
        have hS9 : Sh N8 := by rw [eN8]; exact hS7.put (by decide) (by decide) rfl
        replace h := eAload (mi := 212) (pc := 45) (len := 1) (i := 0) rfl rfl h
        replace h := eConst (mi := 212) (pc := 46) (len := 1) (v := 0) rfl h
        obtain ⟨N10, eN10⟩ : ∃ X_, X_ = mPut N8 181 32 (.int (0 : Int32)) := ⟨_, rfl⟩
        replace h := ePutE (a := 181) (f := 32) (N := N10) rfl eN10 (mi := 212) (pc := 47) (len := 3) (j := 1132) rfl h
        have hS11 : Sh N10 := by rw [eN10]; exact hS9.put (by decide) (by decide) rfl
        have sa : Sh N4 := by rw [eN4]; exact hS.put (by decide) (by decide) rfl
        have sb : Sh N6 := by rw [eN6]; exact sa.put (by decide) (by decide) rfl
        have sc : Sh N8 := by rw [eN8]; exact sb.put (by decide) (by decide) rfl
        have sd : Sh N10 := by rw [eN10]; exact sc.put (by decide) (by decide) rfl
        have na : ∀ c x, (c ≠ 181 ∨ x ≠ 26) → mSlot N4 c x = mSlot M c x := fun c x q => by rw [eN4]; exact mSlot_put_ne q
        have nb : ∀ c x, (c ≠ 181 ∨ x ≠ 27) → mSlot N6 c x = mSlot N4 c x := fun c x q => by rw [eN6]; exact mSlot_put_ne q
        have nc : ∀ c x, (c ≠ 181 ∨ x ≠ 30) → mSlot N8 c x = mSlot N6 c x := fun c x q => by rw [eN8]; exact mSlot_put_ne q
        have nd : ∀ c x, (c ≠ 181 ∨ x ≠ 32) → mSlot N10 c x = mSlot N8 c x := fun c x q => by rw [eN10]; exact mSlot_put_ne q
        have nn : ∀ c x, c ≠ 181 → mSlot N10 c x = mSlot M c x := fun c x q => (((nd c x (Or.inl q)).trans (nc c x (Or.inl q))).trans (nb c x (Or.inl q))).trans (na c x (Or.inl q))
        have g1 := rIn2_of c1
        have g2 := rIn160_true c2
        have g3 : n.toInt ≤ (iv M 181 25).toInt := by have q := c3; omega
        obtain ⟨t1, t2, t3, t4⟩ := hX ⟨g2, g3⟩
        have hT : RT N10 t n.toInt := ⟨by rw [iv_sl (nd 181 27 (Or.inr (by decide))), iv_sl (nc 181 27 (Or.inr (by decide))), eN6, iv_put_eq sa (by decide) (by decide) (by decide)], g2.2, fun k hk => by rw [iv_sl (nn 202 k (by decide))]; exact t1 k hk, t2⟩
        have R2 : RC N10 ((0, 0, 0, 0), f, g) := ⟨sd, by rw [iv_sl (nd 181 26 (Or.inr (by decide))), iv_sl (nc 181 26 (Or.inr (by decide))), iv_sl (nb 181 26 (Or.inr (by decide))), eN4, iv_put_eq hS (by decide) (by decide) (by decide)]; rfl, by rw [iv_sl (nd 181 30 (Or.inr (by decide))), eN8, iv_put_eq sb (by decide) (by decide) (by decide)]; rfl, Nat.zero_le _, fun k hk => by rw [iv_sl (nn 203 k (by decide))]; exact t3 k, fun k hk => by rw [iv_sl (nn 204 k (by decide))]; exact t4 k⟩
        have I2 : KI n.toInt ((0, 0, 0, 0), f, g) := ⟨⟨by show (0 : Int) ≤ 0; decide, by show 0 ≤ n.toInt; omega⟩, by show ((0 : Nat) : Int) ≤ 2 * 0; decide, fun k hk => absurd hk (Nat.not_lt_zero k)⟩
        have nm1 : ∀ p : Int, 0 ≤ p → p < n.toInt → ¬ t p = -1 := fun p q1 q2 => by
          have q := (t1 p.toNat (by omega)).2
          rw [show ((p.toNat : Nat) : Int) = p by omega] at q
          omega
        have nz : ∀ c i, (c = 181 → i < 25 ∨ 33 < i) → (c < 203 ∨ 214 < c) → mSlot N10 c i = mSlot M c i := fun c i a b => by
          by_cases q : c = 181
          · have := a q
            rw [nd c i (Or.inr (by omega)), nc c i (Or.inr (by omega)), nb c i (Or.inr (by omega)), na c i (Or.inr (by omega))]
          · exact nn c i q
        refine Or.inr ⟨g1, g2, g3, _, lr_50 (M0 := N10) g1.1 (by omega) nm1 rfl rfl R2 hT I2 RY.rf (by rw [eN10, iv_put_eq sc (by decide) (by decide) (by decide)]; rfl) h, nz, nn⟩
      · replace c3 : (iv M 181 25).toInt < n.toInt := mC_le.2 c3
        replace h := eConst (mi := 212) (pc := 28) (len := 1) (v := (-1)) rfl h
        obtain ⟨e1, e2⟩ := eRetI (mi := 212) (pc := 29) (len := 1) rfl h
        exact Or.inl ⟨(fun q => by have q1 := q.1; have q2 := q.2.1; have q3 := q.2.2; omega), e1, e2⟩

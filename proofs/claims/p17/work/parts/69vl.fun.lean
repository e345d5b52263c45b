/-! the class's reader against the machine: clauses (printed by fn14.py) -/
theorem CT0.fxg {lo hi : Nat} {M M' : Mem} {t : Int → Int} {n : Int} (h : CT0 M t n) (h1 : mSlot M' 130 1 = mSlot M 130 1) (h2 : iv M' 130 2 = iv M 130 2) (f : Fx lo hi M M') (hl : 128 < lo) : CT0 M' t n :=
  ⟨h1.trans h.1, by rw [h2]; exact h.2.1, h.2.2.1, fun k hk => by rw [f.si (c := 128) (Or.inl hl)]; exact h.2.2.2.1 k hk, h.2.2.2.2⟩
theorem iv_sl {X Y : Mem} {c i : Nat} (e : mSlot X c i = mSlot Y c i) : iv X c i = iv Y c i := by unfold iv; rw [e]
theorem CB_val {t : Int → Int} {k : Int} {P : PS} {M : Mem} (h : CB t (cBad k P) M) : (iv M 130 5).toInt = -1000 * k - P.1.1 := by
  obtain ⟨c', h1, h2, h3⟩ := h
  have e := Rch.one h1 Rch.rf (by omega) (show 7 ≤ (cBad k P).1 from (by decide : 7 ≤ 8))
  rw [← h3, e]
  rfl
theorem pZ_id {r : PS} (h1 : r.1.2.1 = 0) (h2 : r.1.2.2.2 = 0) : pZ r = r := by
  obtain ⟨⟨a, b, c, d⟩, e⟩ := r
  have h1 : b = 0 := h1
  have h2 : d = 0 := h2
  subst h1
  subst h2
  rfl
theorem pTop_z {P : PS} (e : P.1.2.2.2 = 0) : pTop P = -1 := by unfold pTop; rw [if_pos e]
theorem sA_spn {t : Int → Int} {b : Nat} {P : PS} (h1 : ¬ (2 ≤ pTop P ∧ pTop P ≤ 6)) (h2 : cSum (t P.1.1) = -1) (hh : pHas P b P.1.2.2.2 = false) : sm t (1, b, 0, P) = (7, b, 0, P) := by
  show sA t b 0 P = _
  unfold sA
  rw [if_neg (by omega), if_neg (by omega), if_neg (by omega), if_neg (by rw [hh]; intro q; cases q.2), if_neg (by rw [hh]; decide), if_pos rfl]
def ClX (t : Int → Int) (Q : PS) (v : Int) : Prop := (¬ t Q.1.1 = 40 ∧ v = -1000 * 1 - Q.1.1) ∨ (t Q.1.1 = 40 ∧ ∃ c', Rch t (2, 0, 0, Q) c' ∧ c'.1 = 8 ∧ c'.2.2.1 = v)
def ClB (t : Int → Int) (k : Nat) (P : PS) (v : Int) : Prop := (¬ (t P.1.1 = 98 ∨ t P.1.1 = 115 ∨ t P.1.1 = 121) ∧ v = -1000 * 1 - P.1.1) ∨ ((t P.1.1 = 98 ∨ t P.1.1 = 115 ∨ t P.1.1 = 121) ∧ k = 12 ∧ v = -1000 * 4 - P.1.1) ∨ ((t P.1.1 = 98 ∨ t P.1.1 = 115 ∨ t P.1.1 = 121) ∧ k < 12 ∧ ((t P.1.1 = 121 ∧ ∃ c', Rch t (0, 0, 0, pAdv P) c' ∧ c'.1 = 8 ∧ c'.2.2.1 = v) ∨ ∃ Q, ClQ t P Q ∧ ClX t Q v))
theorem FR.lo {A B C : Mem} {P Q : PS} {sh : Int} (h0 : 0 ≤ sh) (h : FR A P B Q sh) (h1 : ∀ i : Nat, (i : Int) < Q.1.2.2.1 + sh → iv C 132 i = iv B 132 i) (h2 : iv C 130 5 = iv B 130 5) : FR A P C Q sh := by
  obtain ⟨a2, a3, a4, a5, a6, a7, a8⟩ := h
  exact ⟨a2, a3, a4, a5, fun i hi => (h1 i (by omega)).trans (a6 i hi), fun k k1 k2 => by rw [h1 _ (by omega)]; exact a7 k k1 k2, h2.trans a8⟩
theorem FR.fr {A A0 B : Mem} {P Q : PS} {sh : Int} (h : FR A P B Q sh) (h1 : SM A0 A) : FR A0 P B Q sh :=
  ⟨h.1, h.2.1, h.2.2.1, h.2.2.2.1, fun i hi => (h.2.2.2.2.1 i hi).trans (h1.2 i), h.2.2.2.2.2.1, h.2.2.2.2.2.2.trans h1.1⟩
/-- a clause's end is written: no code of the machine's -/
theorem end_ok {M : Mem} {t : Int → Int} {n sh z : Int} {P : PS} (hS : Sh M) (h : CT0 M t n) (hc : CR M P sh n (z + 1)) (hz : 0 ≤ z) : (iv M 131 1).toInt < 160 ∧ CQ M (stepM M 59 0) ∧ CT0 (stepM M 59 0) t n ∧ CR (stepM M 59 0) P (sh + 1) n z ∧ (∀ i : Nat, (i : Int) < P.1.2.2.1 + sh → iv (stepM M 59 0) 132 i = iv M 132 i) ∧ (iv (stepM M 59 0) 132 ((P.1.2.2.1 : Int) + sh).toNat).toInt = 61865984 ∧ iv (stepM M 59 0) 130 5 = iv M 130 5 := by
  have hn := h.2.2.1
  obtain ⟨c1, c2, c3, c4, c5, c6⟩ := hc
  have l0 : (iv M 131 1).toInt < 160 := by omega
  have ei : (iv M 131 1).toInt.toNat = ((P.1.2.2.1 : Int) + sh).toNat := by rw [c3]
  have q1 := CQ.put (a := 132) (i := (iv M 131 1).toInt.toNat) (v := stepV 59 0) hS (by omega)
  have q2 := CQ.put (a := 131) (i := 1) (v := iv (mPut M 132 (iv M 131 1).toInt.toNat (.int (stepV 59 0))) 131 1 + 1) q1.1 (by omega)
  have s1 : ∀ i, iv (stepM M 59 0) 132 i = iv (mPut M 132 (iv M 131 1).toInt.toNat (.int (stepV 59 0))) 132 i := fun i => iv_put_ne (Or.inl (by decide))
  have s2 : (iv (stepM M 59 0) 131 1).toInt = (P.1.2.2.1 : Int) + sh + 1 := by
    unfold stepM
    rw [iv_put_eq q1.1 (by decide) (by decide) (by decide), iv_put_ne (Or.inl (by decide))]
    exact pos_put c3 (by omega) (by omega)
  refine ⟨l0, q1.tr q2, (h.put hS (by omega)).put q1.1 (by omega), ⟨?_, ?_, ?_, ?_, ?_, c6⟩, fun i hi => ?_, ?_, ?_⟩
  · unfold stepM
    rw [iv_put_ne (Or.inl (by decide)), iv_put_ne (Or.inl (by decide))]
    exact c1
  · unfold stepM
    rw [iv_put_ne (Or.inl (by decide)), iv_put_ne (Or.inl (by decide))]
    exact c2
  · rw [s2]
    omega
  · omega
  · omega
  · rw [s1]
    exact iv_put_ne (Or.inr (by omega))
  · rw [s1, ← ei, iv_put_eq hS (by decide) (by decide) (by show _ < 160; omega)]
    rfl
  · unfold stepM
    rw [iv_put_ne (Or.inl (by decide)), iv_put_ne (Or.inl (by decide))]
theorem brk0_ok {n d : Nat} {M : Mem} {r : Option Value} {M1 : Mem} {t : Int → Int} {N sh z : Int} {P : PS} (hS : Sh M) (hT : CT0 M t N) (hC : CR M P sh N z) (eO : P.1.2.1 = 0) (eW : P.1.2.2.2 = 0) (h : En n d 77 0 (lv_args 0 [.ref 130]) [] M r M1) : CQ M M1 ∧ CT0 M1 t N ∧ ((∃ P', r = some (.int 1) ∧ t P.1.1 = 40 ∧ Rch t (2, 0, 0, P) (7, 0, 0, P') ∧ CR M1 P' sh N (z + 2) ∧ FR M P M1 P' sh ∧ P'.1.2.1 = 0 ∧ P'.1.2.2.2 = 0) ∨ (r = some (.int 0) ∧ ClX t P (iv M1 130 5).toInt)) := by
  replace h := eAload (mi := 77) (pc := 0) (len := 1) (i := 0) rfl rfl h
  replace h := eConst (mi := 77) (pc := 1) (len := 2) (v := 40) rfl h
  obtain ⟨r1, N2, g3, h⟩ := eCall (mi := 77) (pc := 3) (len := 3) (j := 74) (as := [.ref 130, .int (40 : Int32)]) (rest := []) rfl (Or.inr (Or.inl rfl)) (by decide) rfl rfl h
  have ts : (sgn M).toInt = t P.1.1 := sgn_t hT hC
  rcases open_en hS hT.1 g3 with ⟨q1, q2, q3⟩ | ⟨q1, q2, q3, q4⟩ | ⟨q1, q2, q3, q4⟩
  · rw [q2] at h
    rcases eIf (mi := 77) (pc := 6) (len := 3) (t := 29) rfl rfl h with ⟨c4, h⟩ | ⟨c4, h⟩
    · skip
      replace h := eConst (mi := 77) (pc := 29) (len := 1) (v := 0) rfl h
      obtain ⟨e1, e2⟩ := eRetI (mi := 77) (pc := 30) (len := 1) rfl h
      rw [e2]
      have f := fail_ok (k := 1) (c := cBad 1 P) hS hT hC (by decide) (by decide) Rch.rf
      rw [← q3] at f
      exact ⟨f.1, f.2.1, Or.inr ⟨e1, Or.inl ⟨fun q => q1 (ts.trans q), CB_val f.2.2⟩⟩⟩
    · exact absurd c4 (by decide)
  · rw [q3] at h
    rcases eIf (mi := 77) (pc := 6) (len := 3) (t := 29) rfl rfl h with ⟨c5, h⟩ | ⟨c5, h⟩
    · skip
      replace h := eConst (mi := 77) (pc := 29) (len := 1) (v := 0) rfl h
      obtain ⟨e1, e2⟩ := eRetI (mi := 77) (pc := 30) (len := 1) rfl h
      rw [e2]
      exact absurd (hC.2.1.symm.trans q2) (by rw [eO]; decide)
    · exact absurd c5 (by decide)
  · rw [q3] at h
    have t40 : t P.1.1 = 40 := ts.symm.trans q1
    have hA : CQ M N2 ∧ CT0 N2 t N ∧ CR N2 (pAdv (pOpn (pPush P 13631488) 1)) sh N (z + 1) ∧ SM M N2 := by rw [q4]; exact open_ok hS hT hC (by rw [t40]; decide) q2
    have s1 : sm t (2, 0, 0, P) = (2, 0, 0, pAdv (pOpn (pPush P 13631488) 1)) := sP_brk t40 (by rw [eO]; decide)
    have tp2 : pTop (pAdv (pOpn (pPush P 13631488) 1)) = 13 := pTop_push (P := P) (w := 13) (by decide)
    rcases eIf (mi := 77) (pc := 6) (len := 3) (t := 29) rfl rfl h with ⟨c6, h⟩ | ⟨c6, h⟩
    · exact absurd c6 (by decide)
    · skip
      replace h := eAload (mi := 77) (pc := 9) (len := 1) (i := 0) rfl rfl h
      obtain ⟨r7, N8, g9, h⟩ := eCall (mi := 77) (pc := 10) (len := 3) (j := 78) (as := [.ref 130]) (rest := []) rfl (Or.inr (Or.inl rfl)) (by decide) rfl rfl h
      obtain ⟨hQ3, hT3, hR3⟩ := cnd_all n _ _ _ _ t N sh (z + 1) (pAdv (pOpn (pPush P 13631488) 1)) hA.1.1 hA.2.1 hA.2.2.1 (by show 1 ≤ P.1.2.2.2 + 1; omega) tp2 g9
      rcases hR3 with ⟨P3, er, hr3, hC3, hF3, eO3, eW3, hk3⟩ | ⟨er, hB3⟩
      · rw [er] at h
        rcases eIf (mi := 77) (pc := 13) (len := 3) (t := 29) rfl rfl h with ⟨c10, h⟩ | ⟨c10, h⟩
        · exact absurd c10 (by decide)
        · skip
          replace h := eAload (mi := 77) (pc := 16) (len := 1) (i := 0) rfl rfl h
          replace h := eConst (mi := 77) (pc := 17) (len := 2) (v := 41) rfl h
          obtain ⟨r11, N12, g13, h⟩ := eCall (mi := 77) (pc := 19) (len := 3) (j := 75) (as := [.ref 130, .int (41 : Int32)]) (rest := []) rfl (Or.inr (Or.inl rfl)) (by decide) rfl rfl h
          have W3 : P3.1.2.2.2 = P.1.2.2.2 + 1 := eW3
          have O3 : P3.1.2.1 = P.1.2.1 + 1 := eO3
          have tp3 : pTop P3 = 13 := (pTop_eq hF3 eW3).trans tp2
          have hr5 := Rch.go s1 hr3
          have s0 : 0 ≤ sh := hC.2.2.2.1.1
          have hF2 := (FR.rf (M := M) (P := P) (sh := sh)).st (R := pAdv (pOpn (pPush P 13631488) 1)) hA.2.2.2 rfl rfl (Nat.le_succ _) (fun k hk => by show pUp P.2.2 P.1.2.2.2 _ k = P.2.2 k; unfold pUp; rw [if_neg (by omega)])
          have ts3 : (sgn N8).toInt = t P3.1.1 := sgn_t hT3 hC3
          rcases close_en hQ3.1 hT3.1 g13 with ⟨q5, q6, q7⟩ | ⟨q5, q6, q7⟩
          · rw [q6] at h
            rcases eIf (mi := 77) (pc := 22) (len := 3) (t := 29) rfl rfl h with ⟨c14, h⟩ | ⟨c14, h⟩
            · skip
              replace h := eConst (mi := 77) (pc := 29) (len := 1) (v := 0) rfl h
              obtain ⟨e1, e2⟩ := eRetI (mi := 77) (pc := 30) (len := 1) rfl h
              rw [e2]
              have f := fail_ok (k := 1) (c := (2, 0, 0, P)) hQ3.1 hT3 hC3 (by decide) (by decide) (hr5.tr (Rch.go (sQ_bad tp3 (fun q => q5 (ts3.trans q)) hk3.1 hk3.2) Rch.rf))
              rw [← q7] at f
              exact ⟨(hA.1.tr hQ3).tr f.1, f.2.1, Or.inr ⟨e1, Or.inr ⟨t40, f.2.2⟩⟩⟩
            · exact absurd c14 (by decide)
          · rw [q6] at h
            rcases eIf (mi := 77) (pc := 22) (len := 3) (t := 29) rfl rfl h with ⟨c15, h⟩ | ⟨c15, h⟩
            · exact absurd c15 (by decide)
            · skip
              replace h := eConst (mi := 77) (pc := 25) (len := 1) (v := 1) rfl h
              replace h := eGoto (mi := 77) (pc := 26) (len := 3) (t := 30) rfl rfl h
              obtain ⟨e1, e2⟩ := eRetI (mi := 77) (pc := 30) (len := 1) rfl h
              rw [e2]
              have t41 : t P3.1.1 = 41 := ts3.symm.trans q5
              have f := close_ok hQ3.1 hT3 hC3 (by rw [t41]; decide) (by omega)
              rw [← q7] at f
              have z0 := hC.2.2.2.1.2.2.2
              have hF4 := (hF2.tr s0 hF3).st (R := pAdv (pOpn (pPop P3) (-1))) f.2.2.2 rfl rfl (by show P.1.2.2.2 ≤ P3.1.2.2.2 - 1; omega) (fun _ _ => rfl)
              refine ⟨(hA.1.tr hQ3).tr f.1, f.2.1, Or.inl ⟨pAdv (pOpn (pPop P3) (-1)), e1, t40, hr5.tr (Rch.go (sQ_all tp3 t41 (by omega)) Rch.rf), f.2.2.1.le (by omega) (by omega), hF4, ?_, ?_⟩⟩
              · show P3.1.2.1 + -1 = 0
                omega
              · show P3.1.2.2.2 - 1 = 0
                omega
      · rw [er] at h
        rcases eIf (mi := 77) (pc := 13) (len := 3) (t := 29) rfl rfl h with ⟨c16, h⟩ | ⟨c16, h⟩
        · skip
          replace h := eConst (mi := 77) (pc := 29) (len := 1) (v := 0) rfl h
          obtain ⟨e1, e2⟩ := eRetI (mi := 77) (pc := 30) (len := 1) rfl h
          rw [e2]
          exact ⟨hA.1.tr hQ3, hT3, Or.inr ⟨e1, Or.inr ⟨t40, CB.pre (Rch.go s1 Rch.rf) hB3⟩⟩⟩
        · exact absurd c16 (by decide)
def aclM (M : Mem) (x : Int32) : Mem := mPut (mPut (mPut M 133 (iv M 131 5).toInt.toNat (.int x)) 135 (iv M 131 5).toInt.toNat (.int (iv M 131 1))) 131 5 (.int (iv M 131 5 + 1))
def scM (M : Mem) : Mem := mPut M 134 (iv M 131 5 - 1).toInt.toNat (.int (iv M 131 1))
theorem acl_en {x : Int32} {n d : Nat} {M : Mem} {r : Option Value} {M1 : Mem} (hS : Sh M) (hl : (iv M 131 5).toInt < 12) (h : En n d 62 0 (lv_args 0 [.ref 131, .int x]) [] M r M1) : r = none ∧ M1 = aclM M x := by
  replace h := eAload (mi := 62) (pc := 0) (len := 1) (i := 0) rfl rfl h
  replace h := eGetI (a := 131) (j := 405) hS (by decide) (by decide) rfl (mi := 62) (pc := 1) (len := 3) rfl h
  replace h := eConst (mi := 62) (pc := 4) (len := 2) (v := 12) rfl h
  rcases eIc (mi := 62) (pc := 6) (len := 3) (t := 42) rfl rfl h with ⟨c1, h⟩ | ⟨c1, h⟩
  · replace c1 : ¬ (iv M 131 5).toInt < 12 := mC_ge.1 c1
    exact absurd hl c1
  · replace c1 : (iv M 131 5).toInt < 12 := mC_ge.2 c1
    replace h := eAload (mi := 62) (pc := 9) (len := 1) (i := 0) rfl rfl h
    replace h := eGetR (a := 131) (j := 402) (g := 133) hS (by decide) (by decide) rfl rfl rfl (mi := 62) (pc := 10) (len := 3) rfl h
    replace h := eAload (mi := 62) (pc := 13) (len := 1) (i := 0) rfl rfl h
    replace h := eGetI (a := 131) (j := 405) hS (by decide) (by decide) rfl (mi := 62) (pc := 14) (len := 3) rfl h
    replace h := eIload (mi := 62) (pc := 17) (len := 1) (i := 1) rfl rfl h
    obtain ⟨N3, eN3⟩ : ∃ X_, X_ = mPut M 133 (iv M 131 5).toInt.toNat (.int x) := ⟨_, rfl⟩
    obtain ⟨b2, h⟩ := eIast (x := (iv M 131 5)) (N := N3) hS (a := 133) (by decide) (by decide) eN3 (mi := 62) (pc := 18) (len := 1) rfl h
    have hS4 : Sh N3 := by rw [eN3]; exact hS.put (by decide) (by decide) rfl
    replace h := eAload (mi := 62) (pc := 19) (len := 1) (i := 0) rfl rfl h
    replace h := eGetR (a := 131) (j := 404) (g := 135) hS4 (by decide) (by decide) rfl rfl rfl (mi := 62) (pc := 20) (len := 3) rfl h
    replace h := eAload (mi := 62) (pc := 23) (len := 1) (i := 0) rfl rfl h
    replace h := eGetI (a := 131) (j := 405) hS4 (by decide) (by decide) rfl (mi := 62) (pc := 24) (len := 3) rfl h
    replace h := eAload (mi := 62) (pc := 27) (len := 1) (i := 0) rfl rfl h
    replace h := eGetI (a := 131) (j := 401) hS4 (by decide) (by decide) rfl (mi := 62) (pc := 28) (len := 3) rfl h
    obtain ⟨N6, eN6⟩ : ∃ X_, X_ = mPut N3 135 (iv N3 131 5).toInt.toNat (.int (iv N3 131 1)) := ⟨_, rfl⟩
    obtain ⟨b5, h⟩ := eIast (x := (iv N3 131 5)) (N := N6) hS4 (a := 135) (by decide) (by decide) eN6 (mi := 62) (pc := 31) (len := 1) rfl h
    have hS7 : Sh N6 := by rw [eN6]; exact hS4.put (by decide) (by decide) rfl
    replace h := eAload (mi := 62) (pc := 32) (len := 1) (i := 0) rfl rfl h
    replace h := eDupR (mi := 62) (pc := 33) (len := 1) rfl h
    replace h := eGetI (a := 131) (j := 405) hS7 (by decide) (by decide) rfl (mi := 62) (pc := 34) (len := 3) rfl h
    replace h := eConst (mi := 62) (pc := 37) (len := 1) (v := 1) rfl h
    replace h := eAdd (mi := 62) (pc := 38) (len := 1) rfl h
    obtain ⟨N8, eN8⟩ : ∃ X_, X_ = mPut N6 131 5 (.int ((iv N6 131 5) + (1 : Int32))) := ⟨_, rfl⟩
    replace h := ePutE (a := 131) (f := 5) (N := N8) rfl eN8 (mi := 62) (pc := 39) (len := 3) (j := 405) rfl h
    have hS9 : Sh N8 := by rw [eN8]; exact hS7.put (by decide) (by decide) rfl
    obtain ⟨e1, e2⟩ := eRetV (mi := 62) (pc := 42) (len := 1) rfl h
    have i1 : iv N3 131 5 = iv M 131 5 := by rw [eN3]; exact iv_put_ne (Or.inl (by decide))
    have j1 : iv N3 131 1 = iv M 131 1 := by rw [eN3]; exact iv_put_ne (Or.inl (by decide))
    have i2 : iv N6 131 5 = iv N3 131 5 := by rw [eN6]; exact iv_put_ne (Or.inl (by decide))
    rw [e2, eN8, i2, eN6, i1, j1, eN3]
    exact ⟨e1, rfl⟩
theorem sc_en {n d : Nat} {M : Mem} {r : Option Value} {M1 : Mem} (hS : Sh M) (hl : 0 < (iv M 131 5).toInt) (h : En n d 63 0 (lv_args 0 [.ref 131]) [] M r M1) : r = none ∧ M1 = scM M := by
  replace h := eAload (mi := 63) (pc := 0) (len := 1) (i := 0) rfl rfl h
  replace h := eGetI (a := 131) (j := 405) hS (by decide) (by decide) rfl (mi := 63) (pc := 1) (len := 3) rfl h
  rcases eIf (mi := 63) (pc := 4) (len := 3) (t := 22) rfl rfl h with ⟨c1, h⟩ | ⟨c1, h⟩
  · replace c1 : ¬ 0 < (iv M 131 5).toInt := mC_le.1 c1
    exact absurd hl c1
  · replace c1 : 0 < (iv M 131 5).toInt := mC_le.2 c1
    replace h := eAload (mi := 63) (pc := 7) (len := 1) (i := 0) rfl rfl h
    replace h := eGetR (a := 131) (j := 403) (g := 134) hS (by decide) (by decide) rfl rfl rfl (mi := 63) (pc := 8) (len := 3) rfl h
    replace h := eAload (mi := 63) (pc := 11) (len := 1) (i := 0) rfl rfl h
    replace h := eGetI (a := 131) (j := 405) hS (by decide) (by decide) rfl (mi := 63) (pc := 12) (len := 3) rfl h
    replace h := eConst (mi := 63) (pc := 15) (len := 1) (v := 1) rfl h
    replace h := eSub (mi := 63) (pc := 16) (len := 1) rfl h
    replace h := eAload (mi := 63) (pc := 17) (len := 1) (i := 0) rfl rfl h
    replace h := eGetI (a := 131) (j := 401) hS (by decide) (by decide) rfl (mi := 63) (pc := 18) (len := 3) rfl h
    obtain ⟨N3, eN3⟩ : ∃ X_, X_ = mPut M 134 ((iv M 131 5) - (1 : Int32)).toInt.toNat (.int (iv M 131 1)) := ⟨_, rfl⟩
    obtain ⟨b2, h⟩ := eIast (x := ((iv M 131 5) - (1 : Int32))) (N := N3) hS (a := 134) (by decide) (by decide) eN3 (mi := 63) (pc := 21) (len := 1) rfl h
    have hS4 : Sh N3 := by rw [eN3]; exact hS.put (by decide) (by decide) rfl
    obtain ⟨e1, e2⟩ := eRetV (mi := 63) (pc := 22) (len := 1) rfl h
    rw [e2, eN3]
    exact ⟨e1, rfl⟩
theorem acl_ok {M : Mem} {t : Int → Int} {n sh z : Int} {P : PS} {x : Int32} {k : Nat} (hS : Sh M) (h : CT0 M t n) (hc : CR M P sh n z) (ek : (iv M 131 5).toInt = (k : Int)) (hk : k < 12) : Sh (aclM M x) ∧ CT0 (aclM M x) t n ∧ Fx 130 135 M (aclM M x) ∧ CR (aclM M x) P sh n z ∧ (iv (aclM M x) 131 5).toInt = (k : Int) + 1 ∧ iv (aclM M x) 133 k = x ∧ (iv (aclM M x) 135 k).toInt = (P.1.2.2.1 : Int) + sh ∧ (∀ i, i ≠ k → iv (aclM M x) 133 i = iv M 133 i ∧ iv (aclM M x) 135 i = iv M 135 i) ∧ (∀ i, iv (aclM M x) 134 i = iv M 134 i) ∧ SM M (aclM M x) := by
  have e1 : (iv M 131 5).toInt.toNat = k := by omega
  unfold aclM
  rw [e1]
  obtain ⟨A, eA⟩ : ∃ A, A = mPut M 133 k (.int x) := ⟨_, rfl⟩
  rw [← eA]
  obtain ⟨B, eB⟩ : ∃ B, B = mPut A 135 k (.int (iv M 131 1)) := ⟨_, rfl⟩
  rw [← eB]
  obtain ⟨C, eC⟩ : ∃ C, C = mPut B 131 5 (.int (iv M 131 5 + 1)) := ⟨_, rfl⟩
  rw [← eC]
  have sA : Sh A := by rw [eA]; exact hS.put (by decide) (by decide) rfl
  have sB : Sh B := by rw [eB]; exact sA.put (by decide) (by decide) rfl
  have sC : Sh C := by rw [eC]; exact sB.put (by decide) (by decide) rfl
  have f1 : Fx 130 135 M A := by rw [eA]; exact Fx.put (by decide) (by decide)
  have f2 : Fx 130 135 A B := by rw [eB]; exact Fx.put (by decide) (by decide)
  have f3 : Fx 130 135 B C := by rw [eC]; exact Fx.put (by decide) (by decide)
  have fC := (f1.tr f2).tr f3
  have nA : ∀ c i, (c ≠ 133 ∨ i ≠ k) → mSlot A c i = mSlot M c i := fun c i hq => by rw [eA]; exact mSlot_put_ne hq
  have nB : ∀ c i, (c ≠ 135 ∨ i ≠ k) → mSlot B c i = mSlot A c i := fun c i hq => by rw [eB]; exact mSlot_put_ne hq
  have nC : ∀ c i, (c ≠ 131 ∨ i ≠ 5) → mSlot C c i = mSlot B c i := fun c i hq => by rw [eC]; exact mSlot_put_ne hq
  have nn : ∀ c i, c ≠ 133 → c ≠ 135 → (c ≠ 131 ∨ i ≠ 5) → mSlot C c i = mSlot M c i := fun c i a b d => ((nC c i d).trans (nB c i (Or.inl b))).trans (nA c i (Or.inl a))
  obtain ⟨c1, c2, c3, c4, c5, c6⟩ := hc
  refine ⟨sC, h.fxg (nn 130 1 (by decide) (by decide) (Or.inl (by decide))) (iv_sl (nn 130 2 (by decide) (by decide) (Or.inl (by decide)))) fC (by decide), fC, ⟨?_, ?_, ?_, c4, c5, c6⟩, ?_, ?_, ?_, ?_, ?_, ?_⟩
  · rw [iv_sl (nn 130 3 (by decide) (by decide) (Or.inl (by decide)))]
    exact c1
  · rw [iv_sl (nn 130 4 (by decide) (by decide) (Or.inl (by decide)))]
    exact c2
  · rw [iv_sl (nn 131 1 (by decide) (by decide) (Or.inr (by decide)))]
    exact c3
  · rw [eC, iv_put_eq sB (by decide) (by decide) (by decide)]
    exact pos_put ek (by omega) (by omega)
  · rw [iv_sl (nC 133 k (Or.inl (by decide))), iv_sl (nB 133 k (Or.inl (by decide))), eA]
    exact iv_put_eq hS (by decide) (by decide) (by show k < 12; omega)
  · rw [iv_sl (nC 135 k (Or.inl (by decide))), eB, iv_put_eq sA (by decide) (by decide) (by show k < 12; omega)]
    exact c3
  · exact fun i hi => ⟨iv_sl (((nC 133 i (Or.inl (by decide))).trans (nB 133 i (Or.inl (by decide)))).trans (nA 133 i (Or.inr hi))), iv_sl (((nC 135 i (Or.inl (by decide))).trans (nB 135 i (Or.inr hi))).trans (nA 135 i (Or.inl (by decide))))⟩
  · exact fun i => iv_sl (nn 134 i (by decide) (by decide) (Or.inl (by decide)))
  · exact ⟨iv_sl (nn 130 5 (by decide) (by decide) (Or.inl (by decide))), fun i => iv_sl (nn 132 i (by decide) (by decide) (Or.inl (by decide)))⟩
theorem sc_ok {M : Mem} {t : Int → Int} {n sh z : Int} {P : PS} {k : Nat} (hS : Sh M) (h : CT0 M t n) (hc : CR M P sh n z) (ek : (iv M 131 5).toInt = (k : Int) + 1) (hk : k < 12) : Sh (scM M) ∧ CT0 (scM M) t n ∧ Fx 130 135 M (scM M) ∧ CR (scM M) P sh n z ∧ iv (scM M) 131 5 = iv M 131 5 ∧ (iv (scM M) 134 k).toInt = (P.1.2.2.1 : Int) + sh ∧ (∀ i, i ≠ k → iv (scM M) 134 i = iv M 134 i) ∧ (∀ i, iv (scM M) 133 i = iv M 133 i ∧ iv (scM M) 135 i = iv M 135 i) ∧ SM M (scM M) := by
  have e1 : (iv M 131 5 - 1).toInt.toNat = k := by
    rw [i32_sub (by rw [ek]; show -2147483648 ≤ (k : Int) + 1 - 1; omega) (by rw [ek]; show (k : Int) + 1 - 1 ≤ 2147483647; omega), ek]
    show ((k : Int) + 1 - 1).toNat = k
    omega
  unfold scM
  rw [e1]
  obtain ⟨A, eA⟩ : ∃ A, A = mPut M 134 k (.int (iv M 131 1)) := ⟨_, rfl⟩
  rw [← eA]
  have sA : Sh A := by rw [eA]; exact hS.put (by decide) (by decide) rfl
  have f1 : Fx 130 135 M A := by rw [eA]; exact Fx.put (by decide) (by decide)
  have nA : ∀ c i, (c ≠ 134 ∨ i ≠ k) → mSlot A c i = mSlot M c i := fun c i hq => by rw [eA]; exact mSlot_put_ne hq
  have nn : ∀ c i, c ≠ 134 → iv A c i = iv M c i := fun c i hq => iv_sl (nA c i (Or.inl hq))
  obtain ⟨c1, c2, c3, c4, c5, c6⟩ := hc
  refine ⟨sA, h.fxg (nA 130 1 (Or.inl (by decide))) (nn 130 2 (by decide)) f1 (by decide), f1, ⟨?_, ?_, ?_, c4, c5, c6⟩, nn 131 5 (by decide), ?_, fun i hi => iv_sl (nA 134 i (Or.inr hi)), fun i => ⟨nn 133 i (by decide), nn 135 i (by decide)⟩, nn 130 5 (by decide), fun i => nn 132 i (by decide)⟩
  · rw [nn 130 3 (by decide)]
    exact c1
  · rw [nn 130 4 (by decide)]
    exact c2
  · rw [nn 131 1 (by decide)]
    exact c3
  · rw [eA, iv_put_eq hS (by decide) (by decide) (by show k < 12; omega)]
    exact c3
/-- the second half of a clause, as the class keeps it -/
def CLs (k : Nat) (M : Mem) (P : PS) (M1 : Mem) (P' : PS) (sh : Int) : Prop := iv M1 131 5 = iv M 131 5 ∧ (iv M1 134 k).toInt = (P.1.2.2.1 : Int) + sh ∧ (∀ i, i ≠ k → iv M1 134 i = iv M 134 i) ∧ (∀ i, iv M1 133 i = iv M 133 i ∧ iv M1 135 i = iv M 135 i) ∧ FR M P M1 P' sh ∧ (iv M1 132 ((P'.1.2.2.1 : Int) + sh).toNat).toInt = 61865984
theorem Fx13 {A B : Mem} (h : CQ A B) : Fx 130 135 A B := h.2.1.up (by decide) (by decide)
theorem cla_91 {L : MLoc} {k : Nat} {n d : Nat} {M : Mem} {r : Option Value} {M1 : Mem} {t : Int → Int} {N sh z : Int} {P : PS} (l0 : mLd L 0 = some (.ref 130)) (hS : Sh M) (hT : CT0 M t N) (hC : CR M P sh N z) (eO : P.1.2.1 = 0) (eW : P.1.2.2.2 = 0) (ek : (iv M 131 5).toInt = (k : Int) + 1) (hk : k < 12) (h : En n d 76 91 L [] M r M1) : Sh M1 ∧ CT0 M1 t N ∧ Fx 130 135 M M1 ∧ ((∃ P', r = some (.int 1) ∧ t P.1.1 = 40 ∧ Rch t (2, 0, 0, P) (7, 0, 0, P') ∧ CR M1 P' (sh + 1) N z ∧ P'.1.2.1 = 0 ∧ P'.1.2.2.2 = 0 ∧ CLs k M P M1 P' sh) ∨ (r = some (.int 0) ∧ ClX t P (iv M1 130 5).toInt)) := by
  replace h := eAload (mi := 76) (pc := 91) (len := 1) (i := 0) rfl l0 h
  replace h := eGetR (a := 130) (j := 500) (g := 131) hS (by decide) (by decide) rfl rfl rfl (mi := 76) (pc := 92) (len := 3) rfl h
  obtain ⟨r1, N2, g3, h⟩ := eCall (mi := 76) (pc := 95) (len := 3) (j := 63) (as := [.ref 131]) (rest := []) rfl (Or.inr (Or.inl rfl)) (by decide) rfl rfl h
  obtain ⟨q6, eM6⟩ := sc_en hS (by omega) g3
  rw [q6] at h
  have hB := sc_ok (k := k) hS hT hC ek hk
  rw [← eM6] at hB
  replace h := eAload (mi := 76) (pc := 98) (len := 1) (i := 0) rfl l0 h
  obtain ⟨r4, N5, g6, h⟩ := eCall (mi := 76) (pc := 99) (len := 3) (j := 77) (as := [.ref 130]) (rest := []) rfl (Or.inr (Or.inl rfl)) (by decide) rfl rfl h
  obtain ⟨hQ3, hT3, hR3⟩ := brk0_ok hB.1 hB.2.1 hB.2.2.2.1 eO eW g6
  rcases hR3 with ⟨P3, er, t40, hr3, hC3, hF3, eO3, eW3⟩ | ⟨er, hB3⟩
  · rw [er] at h
    rcases eIf (mi := 76) (pc := 102) (len := 3) (t := 107) rfl rfl h with ⟨c7, h⟩ | ⟨c7, h⟩
    · skip
      replace h := eAload (mi := 76) (pc := 107) (len := 1) (i := 0) rfl l0 h
      replace h := eGetR (a := 130) (j := 500) (g := 131) hQ3.1 (by decide) (by decide) rfl rfl rfl (mi := 76) (pc := 108) (len := 3) rfl h
      replace h := eConst (mi := 76) (pc := 111) (len := 2) (v := 59) rfl h
      replace h := eConst (mi := 76) (pc := 113) (len := 1) (v := 0) rfl h
      obtain ⟨r8, N9, g10, h⟩ := eCall (mi := 76) (pc := 114) (len := 3) (j := 60) (as := [.ref 131, .int (59 : Int32), .int (0 : Int32)]) (rest := []) rfl (Or.inr (Or.inl rfl)) (by decide) rfl rfl h
      have z0 := hC.2.2.2.1.2.2.2
      have s0 : 0 ≤ sh := hC.2.2.2.1.1
      obtain ⟨l160, hQ4, hT4, hC4, hE4, hV4, hU4⟩ := end_ok (z := z + 1) hQ3.1 hT3 (hC3.le (by omega) (by omega)) (by omega)
      obtain ⟨q4, eM4⟩ := step_en hQ3.1 l160 g10
      rw [q4] at h
      rw [← eM4] at hQ4 hT4 hC4 hE4 hV4 hU4
      replace h := ePopI (mi := 76) (pc := 117) (len := 1) rfl h
      replace h := eConst (mi := 76) (pc := 118) (len := 1) (v := 1) rfl h
      obtain ⟨e1, e2⟩ := eRetI (mi := 76) (pc := 119) (len := 1) rfl h
      rw [e2]
      have i5 : iv N9 131 5 = iv M 131 5 := (hQ4.2.2.trans hQ3.2.2).trans hB.2.2.2.2.1
      have n5 : ∀ c i, 132 < c → iv N9 c i =  iv N2 c i := fun c i hc => (hQ4.2.1.si (Or.inr hc)).trans (hQ3.2.1.si (Or.inr hc))
      refine ⟨hQ4.1, hT4, (hB.2.2.1.tr (Fx13 hQ3)).tr (Fx13 hQ4), Or.inl ⟨P3, e1, t40, hr3, hC4.le z0 (by omega), eO3, eW3, i5, ?_, ?_, ?_, (hF3.lo s0 hE4 hU4).fr hB.2.2.2.2.2.2.2.2, hV4⟩⟩
      · rw [n5 134 k (by decide)]
        exact hB.2.2.2.2.2.1
      · exact fun i hi => (n5 134 i (by decide)).trans (hB.2.2.2.2.2.2.1 i hi)
      · exact fun i => ⟨(n5 133 i (by decide)).trans (hB.2.2.2.2.2.2.2.1 i).1, (n5 135 i (by decide)).trans (hB.2.2.2.2.2.2.2.1 i).2⟩
    · exact absurd c7 (by decide)
  · rw [er] at h
    rcases eIf (mi := 76) (pc := 102) (len := 3) (t := 107) rfl rfl h with ⟨c11, h⟩ | ⟨c11, h⟩
    · exact absurd c11 (by decide)
    · skip
      replace h := eConst (mi := 76) (pc := 105) (len := 1) (v := 0) rfl h
      obtain ⟨e1, e2⟩ := eRetI (mi := 76) (pc := 106) (len := 1) rfl h
      rw [e2]
      exact ⟨hQ3.1, hT3, hB.2.2.1.tr (Fx13 hQ3), Or.inr ⟨e1, hB3⟩⟩
/-- a clause as the class keeps it: its letter, its places, its steps -/
def PG (M : Mem) (F : Nat → Int) (j : Nat) (c : Int) (a b e : Nat) (sh sk : Int) : Prop := (iv M 133 j).toInt = c ∧ (iv M 134 j).toInt = (b : Int) + sk ∧ (iv M 135 j).toInt = (a : Int) + sh ∧ (a ≤ b ∧ b ≤ e ∧ 0 ≤ sh ∧ sk = (if c = 121 then sh + 1 else sh)) ∧ (∀ i, a ≤ i → i < b → (iv M 132 ((i : Int) + sh).toNat).toInt = encC sh (F i)) ∧ (c = 121 → (iv M 132 ((b : Int) + sh).toNat).toInt = 61865984) ∧ (∀ i, b ≤ i → i < e → (iv M 132 ((i : Int) + sk).toNat).toInt = encC sk (F i)) ∧ (iv M 132 ((e : Int) + sk).toNat).toInt = 61865984
/-- what a clause leaves as it was -/
def PK (k : Nat) (M : Mem) (P : PS) (M1 : Mem) (P' : PS) (sh : Int) : Prop := iv M1 130 5 = iv M 130 5 ∧ (∀ i, i ≠ k → iv M1 133 i = iv M 133 i ∧ iv M1 134 i = iv M 134 i ∧ iv M1 135 i = iv M 135 i) ∧ (∀ i : Nat, (i : Int) < P.1.2.2.1 + sh → iv M1 132 i = iv M 132 i) ∧ ∀ i, i < P.1.2.2.1 → P'.2.1 i = P.2.1 i
/-- a clause that is read -/
def KCl (t : Int → Int) (N sh : Int) (k : Nat) (M : Mem) (P : PS) (r : Option Value) (M1 : Mem) : Prop := Sh M1 ∧ CT0 M1 t N ∧ Fx 130 135 M M1 ∧ ((∃ Q P' sk, r = some (.int 1) ∧ k < 12 ∧ ClQ t P Q ∧ ClE t Q P' ∧ CR M1 P' (sk + 1) N 0 ∧ P'.1.2.1 = 0 ∧ P'.1.2.2.2 = 0 ∧ (iv M1 131 5).toInt = (k : Int) + 1 ∧ P.1.2.2.1 ≤ P'.1.2.2.1 ∧ PG M1 P'.2.1 k (t P.1.1) P.1.2.2.1 Q.1.2.2.1 P'.1.2.2.1 sh sk ∧ PK k M P M1 P' sh) ∨ (r = some (.int 0) ∧ ClB t k P (iv M1 130 5).toInt))
theorem cla_29 {L : MLoc} {k : Nat} {x : Int32} {n d : Nat} {M : Mem} {r : Option Value} {M1 : Mem} {t : Int → Int} {N sh : Int} {P : PS} (l0 : mLd L 0 = some (.ref 130)) (l1 : mLd L 1 = some (.int x)) (ex : x.toInt = t P.1.1) (hl : (t P.1.1 = 98 ∨ t P.1.1 = 115 ∨ t P.1.1 = 121)) (hS : Sh M) (hT : CT0 M t N) (hC : CR M P sh N 0) (eO : P.1.2.1 = 0) (eW : P.1.2.2.2 = 0) (ek : (iv M 131 5).toInt = (k : Int)) (hk : k ≤ 12) (h : En n d 76 29 L [] M r M1) : KCl t N sh k M P r M1 := by
  replace h := eAload (mi := 76) (pc := 29) (len := 1) (i := 0) rfl l0 h
  replace h := eGetR (a := 130) (j := 500) (g := 131) hS (by decide) (by decide) rfl rfl rfl (mi := 76) (pc := 30) (len := 3) rfl h
  replace h := eGetI (a := 131) (j := 405) hS (by decide) (by decide) rfl (mi := 76) (pc := 33) (len := 3) rfl h
  replace h := eConst (mi := 76) (pc := 36) (len := 2) (v := 12) rfl h
  rcases eIc (mi := 76) (pc := 38) (len := 3) (t := 47) rfl rfl h with ⟨c1, h⟩ | ⟨c1, h⟩
  · replace c1 : ¬ (iv M 131 5).toInt = 12 := mC_ne.1 c1
    replace h := eAload (mi := 76) (pc := 47) (len := 1) (i := 0) rfl l0 h
    replace h := eDupR (mi := 76) (pc := 48) (len := 1) rfl h
    replace h := eGetI (a := 130) (j := 503) hS (by decide) (by decide) rfl (mi := 76) (pc := 49) (len := 3) rfl h
    replace h := eConst (mi := 76) (pc := 52) (len := 1) (v := 1) rfl h
    replace h := eAdd (mi := 76) (pc := 53) (len := 1) rfl h
    obtain ⟨N2, eN2⟩ : ∃ X_, X_ = mPut M 130 3 (.int ((iv M 130 3) + (1 : Int32))) := ⟨_, rfl⟩
    replace h := ePutE (a := 130) (f := 3) (N := N2) rfl eN2 (mi := 76) (pc := 54) (len := 3) (j := 503) rfl h
    have hS3 : Sh N2 := by rw [eN2]; exact hS.put (by decide) (by decide) rfl
    have k12 : k < 12 := by have q := c1; rw [ek] at q; have q : ¬ (k : Int) = 12 := q; omega
    have hA : CQ M N2 ∧ CT0 N2 t N ∧ CR N2 (pAdv P) sh N (0 + 1) ∧ SM M N2 := by rw [eN2]; exact adv_ok hS hT hC (by rcases hl with q | q | q <;> rw [q] <;> decide)
    have ek1 : (iv N2 131 5).toInt = (k : Int) := by rw [hA.1.2.2]; exact ek
    replace h := eAload (mi := 76) (pc := 57) (len := 1) (i := 0) rfl l0 h
    replace h := eGetR (a := 130) (j := 500) (g := 131) hA.1.1 (by decide) (by decide) rfl rfl rfl (mi := 76) (pc := 58) (len := 3) rfl h
    replace h := eIload (mi := 76) (pc := 61) (len := 1) (i := 1) rfl l1 h
    obtain ⟨r4, N5, g6, h⟩ := eCall (mi := 76) (pc := 62) (len := 3) (j := 62) (as := [.ref 131, .int x]) (rest := []) rfl (Or.inr (Or.inl rfl)) (by decide) rfl rfl h
    obtain ⟨q6, eM6⟩ := acl_en hA.1.1 (by omega) g6
    rw [q6] at h
    have hB := acl_ok (x := x) hA.1.1 hA.2.1 hA.2.2.1 ek1 k12
    rw [← eM6] at hB
    have fB : Fx 130 135 M N5 := (Fx13 hA.1).tr hB.2.2.1
    have o3 : ∀ i, iv N5 134 i = iv M 134 i := fun i => (hB.2.2.2.2.2.2.2.2.1 i).trans (hA.1.2.1.si (Or.inr (by decide)))
    have o4 : ∀ i, i ≠ k → iv N5 133 i = iv M 133 i ∧ iv N5 135 i = iv M 135 i := fun i hi => ⟨(hB.2.2.2.2.2.2.2.1 i hi).1.trans (hA.1.2.1.si (Or.inr (by decide))), (hB.2.2.2.2.2.2.2.1 i hi).2.trans (hA.1.2.1.si (Or.inr (by decide)))⟩
    have o2 : SM M N5 := hA.2.2.2.tr hB.2.2.2.2.2.2.2.2.2
    replace h := eIload (mi := 76) (pc := 65) (len := 1) (i := 1) rfl l1 h
    replace h := eConst (mi := 76) (pc := 66) (len := 2) (v := 121) rfl h
    rcases eIc (mi := 76) (pc := 68) (len := 3) (t := 91) rfl rfl h with ⟨c7, h⟩ | ⟨c7, h⟩
    · replace c7 : ¬ x.toInt = 121 := mC_ne.1 c7
      have ny : ¬ t P.1.1 = 121 := fun q => c7 (ex.trans q)
      have lb : t P.1.1 = 98 ∨ t P.1.1 = 115 := by omega
      have s0 : 0 ≤ sh := hC.2.2.2.1.1
      obtain ⟨j1, j2, j3, j4⟩ := cla_91 (k := k) l0 hB.1 hB.2.1 (hB.2.2.2.1.le (z' := 0) (by omega) (by omega)) eO eW hB.2.2.2.2.1 k12 h
      refine ⟨j1, j2, fB.tr j3, ?_⟩
      rcases j4 with ⟨P5, e5, t40, hr5, hC5, eO5, eW5, k1, k2, k3, k4, k5, k6⟩ | ⟨e5, hx5⟩
      · have k5 := k5.fr o2
        refine Or.inl ⟨pAdv P, P5, sh, e5, k12, Or.inr ⟨lb, rfl⟩, ⟨t40, P5, hr5, (pZ_id eO5 eW5).symm⟩, hC5, eO5, eW5, by rw [k1]; exact hB.2.2.2.2.1, k5.2.2.1, ⟨?_, k2, ?_, ⟨Nat.le_refl _, k5.2.2.1, s0, by rw [if_neg ny]⟩, ?_, ?_, ?_, k6⟩, ⟨?_, ?_, ?_, ?_⟩⟩
        · rw [(k4 k).1, hB.2.2.2.2.2.1]
          exact ex
        · rw [(k4 k).2]
          exact hB.2.2.2.2.2.2.1
        · exact fun i i1 i2 => absurd (show P.1.2.2.1 ≤ i from i1) (Nat.not_le_of_lt i2)
        · exact fun q => absurd q ny
        · exact k5.2.2.2.2.2.1
        · exact k5.2.2.2.2.2.2
        · exact fun i hi => ⟨(k4 i).1.trans (o4 i hi).1, (k3 i hi).trans (o3 i), (k4 i).2.trans (o4 i hi).2⟩
        · exact k5.2.2.2.2.1
        · exact k5.2.2.2.1
      · exact Or.inr ⟨e5, Or.inr (Or.inr ⟨hl, k12, Or.inr ⟨pAdv P, Or.inr ⟨lb, rfl⟩, hx5⟩⟩)⟩
    · replace c7 : x.toInt = 121 := mC_ne.2 c7
      replace h := eAload (mi := 76) (pc := 71) (len := 1) (i := 0) rfl l0 h
      obtain ⟨r8, N9, g10, h⟩ := eCall (mi := 76) (pc := 72) (len := 3) (j := 83) (as := [.ref 130]) (rest := []) rfl (Or.inr (Or.inl rfl)) (by decide) rfl rfl h
      have ty : t P.1.1 = 121 := ex.symm.trans c7
      have tz : pTop (pAdv P) = -1 := pTop_z eW
      obtain ⟨hQ3, hT3, hR3⟩ := sum_all n _ _ _ _ t N sh (0 + 1) 0 0 (pAdv P) hB.1 hB.2.1 hB.2.2.2.1 (Nat.zero_le _) (by show ¬ (2 ≤ pTop _ ∧ pTop _ ≤ 6); rw [tz]; decide) g10
      rcases hR3 with ⟨P3, er, hr3, hC3, hF3, eO3, eW3, hk3⟩ | ⟨er, hB3⟩
      · rw [er] at h
        rcases eIf (mi := 76) (pc := 75) (len := 3) (t := 80) rfl rfl h with ⟨c11, h⟩ | ⟨c11, h⟩
        · skip
          replace h := eAload (mi := 76) (pc := 80) (len := 1) (i := 0) rfl l0 h
          replace h := eGetR (a := 130) (j := 500) (g := 131) hQ3.1 (by decide) (by decide) rfl rfl rfl (mi := 76) (pc := 81) (len := 3) rfl h
          replace h := eConst (mi := 76) (pc := 84) (len := 2) (v := 59) rfl h
          replace h := eConst (mi := 76) (pc := 86) (len := 1) (v := 0) rfl h
          obtain ⟨r12, N13, g14, h⟩ := eCall (mi := 76) (pc := 87) (len := 3) (j := 60) (as := [.ref 131, .int (59 : Int32), .int (0 : Int32)]) (rest := []) rfl (Or.inr (Or.inl rfl)) (by decide) rfl rfl h
          have w3 : P3.1.2.2.2 = 0 := eW3.trans eW
          have p3 : P3.1.2.1 = 0 := eO3.trans eO
          have s0 : 0 ≤ sh := hC.2.2.2.1.1
          have s9 : sm t (1, 0, 0, P3) = (7, 0, 0, P3) := sA_spn (by rw [pTop_z w3]; decide) hk3 (pHas_no _ (by omega))
          obtain ⟨l160, hQ4, hT4, hC4, hE4, hV4, hU4⟩ := end_ok (z := 0) hQ3.1 hT3 hC3 (Int.le_refl 0)
          obtain ⟨q4, eM4⟩ := step_en hQ3.1 l160 g14
          rw [q4] at h
          rw [← eM4] at hQ4 hT4 hC4 hE4 hV4 hU4
          replace h := ePopI (mi := 76) (pc := 90) (len := 1) rfl h
          have i5 : (iv N13 131 5).toInt = (k : Int) + 1 := by rw [hQ4.2.2, hQ3.2.2]; exact hB.2.2.2.2.1
          have n5 : ∀ c i, 132 < c → iv N13 c i = iv N5 c i := fun c i hc => (hQ4.2.1.si (Or.inr hc)).trans (hQ3.2.1.si (Or.inr hc))
          have f4 := (hF3.lo s0 hE4 hU4).fr o2
          have hq : ClQ t P P3 := Or.inl ⟨ty, P3, hr3.tr (Rch.go s9 Rch.rf), (pZ_id p3 w3).symm⟩
          obtain ⟨j1, j2, j3, j4⟩ := cla_91 (k := k) l0 hQ4.1 hT4 hC4 p3 w3 i5 k12 h
          refine ⟨j1, j2, (fB.tr ((Fx13 hQ3).tr (Fx13 hQ4))).tr j3, ?_⟩
          rcases j4 with ⟨P5, e5, t40, hr5, hC5, eO5, eW5, k1, k2, k3, k4, k5, k6⟩ | ⟨e5, hx5⟩
          · refine Or.inl ⟨P3, P5, sh + 1, e5, k12, hq, ⟨t40, P5, hr5, (pZ_id eO5 eW5).symm⟩, hC5, eO5, eW5, by rw [k1]; exact i5, ?_, ⟨?_, k2, ?_, ⟨f4.2.2.1, k5.2.2.1, s0, by rw [if_pos ty]⟩, ?_, ?_, ?_, k6⟩, ⟨?_, ?_, ?_, ?_⟩⟩
            · exact Nat.le_trans f4.2.2.1 k5.2.2.1
            · rw [(k4 k).1, n5 133 k (by decide), hB.2.2.2.2.2.1]
              exact ex
            · rw [(k4 k).2, n5 135 k (by decide)]
              exact hB.2.2.2.2.2.2.1
            · intro i i1 i2
              rw [k5.2.2.2.2.1 _ (by omega), k5.2.2.2.1 i i2]
              exact f4.2.2.2.2.2.1 i i1 i2
            · intro _
              rw [k5.2.2.2.2.1 _ (by omega)]
              exact hV4
            · exact k5.2.2.2.2.2.1
            · exact k5.2.2.2.2.2.2.trans f4.2.2.2.2.2.2
            · exact fun i hi => ⟨((k4 i).1.trans (n5 133 i (by decide))).trans (o4 i hi).1, ((k3 i hi).trans (n5 134 i (by decide))).trans (o3 i), ((k4 i).2.trans (n5 135 i (by decide))).trans (o4 i hi).2⟩
            · exact fun i hi => (k5.2.2.2.2.1 i (by have q : P.1.2.2.1 ≤ P3.1.2.2.1 := f4.2.2.1; omega)).trans (f4.2.2.2.2.1 i hi)
            · exact fun i hi => (k5.2.2.2.1 i (Nat.lt_of_lt_of_le hi f4.2.2.1)).trans (f4.2.2.2.1 i hi)
          · exact Or.inr ⟨e5, Or.inr (Or.inr ⟨hl, k12, Or.inr ⟨P3, hq, hx5⟩⟩)⟩
        · exact absurd c11 (by decide)
      · rw [er] at h
        rcases eIf (mi := 76) (pc := 75) (len := 3) (t := 80) rfl rfl h with ⟨c15, h⟩ | ⟨c15, h⟩
        · exact absurd c15 (by decide)
        · skip
          replace h := eConst (mi := 76) (pc := 78) (len := 1) (v := 0) rfl h
          obtain ⟨e1, e2⟩ := eRetI (mi := 76) (pc := 79) (len := 1) rfl h
          rw [e2]
          exact ⟨hQ3.1, hT3, fB.tr (Fx13 hQ3), Or.inr ⟨e1, Or.inr (Or.inr ⟨hl, k12, Or.inl ⟨ty, hB3⟩⟩)⟩⟩
  · replace c1 : (iv M 131 5).toInt = 12 := mC_ne.2 c1
    replace h := eAload (mi := 76) (pc := 41) (len := 1) (i := 0) rfl l0 h
    replace h := eConst (mi := 76) (pc := 42) (len := 1) (v := 4) rfl h
    obtain ⟨r16, N17, g18, h⟩ := eCall (mi := 76) (pc := 43) (len := 3) (j := 72) (as := [.ref 130, .int (4 : Int32)]) (rest := []) rfl (Or.inr (Or.inl rfl)) (by decide) rfl rfl h
    obtain ⟨q19, q20⟩ := fail_en hS g18
    rw [q19] at h
    have eN17 := q20
    have hS21 : Sh N17 := by rw [eN17]; exact hS.put (by decide) (by decide) rfl
    obtain ⟨e1, e2⟩ := eRetI (mi := 76) (pc := 46) (len := 1) rfl h
    have f := fail_ok (k := 4) (c := cBad 4 P) hS hT hC (by decide) (by decide) Rch.rf
    rw [← eN17, ← e2] at f
    exact ⟨f.1.1, f.2.1, Fx13 f.1, Or.inr ⟨e1, Or.inr (Or.inl ⟨hl, by have q := c1; rw [ek] at q; have q : (k : Int) = 12 := q; omega, CB_val f.2.2⟩)⟩⟩
theorem clause_ok {k : Nat} {n d : Nat} {M : Mem} {r : Option Value} {M1 : Mem} {t : Int → Int} {N sh : Int} {P : PS} (hS : Sh M) (hT : CT0 M t N) (hC : CR M P sh N 0) (eO : P.1.2.1 = 0) (eW : P.1.2.2.2 = 0) (ek : (iv M 131 5).toInt = (k : Int)) (hk : k ≤ 12) (h : En n d 76 0 (lv_args 0 [.ref 130]) [] M r M1) : KCl t N sh k M P r M1 := by
  replace h := eAload (mi := 76) (pc := 0) (len := 1) (i := 0) rfl rfl h
  replace h := eCallP (mi := 76) (pc := 1) (len := 3) (j := 73) (as := [.ref 130]) (rest := []) rfl (Or.inr (Or.inl rfl)) (by decide) rfl rfl (fun _ _ _ _ g => sgn_en hS hT.1 g) h
  have ts : (sgn M).toInt = t P.1.1 := sgn_t hT hC
  replace h := eIstore (mi := 76) (pc := 4) (len := 1) (i := 1) rfl (by decide) h
  replace h := eIload (mi := 76) (pc := 5) (len := 1) (i := 1) rfl rfl h
  replace h := eConst (mi := 76) (pc := 6) (len := 2) (v := 98) rfl h
  rcases eIc (mi := 76) (pc := 8) (len := 3) (t := 29) rfl rfl h with ⟨c1, h⟩ | ⟨c1, h⟩
  · replace c1 : (sgn M).toInt = 98 := mC_eq.1 c1
    exact cla_29 rfl rfl ts (Or.inl (ts.symm.trans c1)) hS hT hC eO eW ek hk h
  · replace c1 : ¬ (sgn M).toInt = 98 := mC_eq.2 c1
    replace h := eIload (mi := 76) (pc := 11) (len := 1) (i := 1) rfl rfl h
    replace h := eConst (mi := 76) (pc := 12) (len := 2) (v := 115) rfl h
    rcases eIc (mi := 76) (pc := 14) (len := 3) (t := 29) rfl rfl h with ⟨c2, h⟩ | ⟨c2, h⟩
    · replace c2 : (sgn M).toInt = 115 := mC_eq.1 c2
      exact cla_29 rfl rfl ts (Or.inr (Or.inl (ts.symm.trans c2))) hS hT hC eO eW ek hk h
    · replace c2 : ¬ (sgn M).toInt = 115 := mC_eq.2 c2
      replace h := eIload (mi := 76) (pc := 17) (len := 1) (i := 1) rfl rfl h
      replace h := eConst (mi := 76) (pc := 18) (len := 2) (v := 121) rfl h
      rcases eIc (mi := 76) (pc := 20) (len := 3) (t := 29) rfl rfl h with ⟨c3, h⟩ | ⟨c3, h⟩
      · replace c3 : (sgn M).toInt = 121 := mC_eq.1 c3
        exact cla_29 rfl rfl ts (Or.inr (Or.inr (ts.symm.trans c3))) hS hT hC eO eW ek hk h
      · replace c3 : ¬ (sgn M).toInt = 121 := mC_eq.2 c3
        replace h := eAload (mi := 76) (pc := 23) (len := 1) (i := 0) rfl rfl h
        replace h := eConst (mi := 76) (pc := 24) (len := 1) (v := 1) rfl h
        obtain ⟨r4, N5, g6, h⟩ := eCall (mi := 76) (pc := 25) (len := 3) (j := 72) (as := [.ref 130, .int (1 : Int32)]) (rest := []) rfl (Or.inr (Or.inl rfl)) (by decide) rfl rfl h
        obtain ⟨q7, q8⟩ := fail_en hS g6
        rw [q7] at h
        have eN5 := q8
        have hS9 : Sh N5 := by rw [eN5]; exact hS.put (by decide) (by decide) rfl
        obtain ⟨e1, e2⟩ := eRetI (mi := 76) (pc := 28) (len := 1) rfl h
        have f := fail_ok (k := 1) (c := cBad 1 P) hS hT hC (by decide) (by decide) Rch.rf
        rw [← eN5, ← e2] at f
        exact ⟨f.1.1, f.2.1, Fx13 f.1, Or.inr ⟨e1, Or.inl ⟨fun q => by rcases q with q | q | q; exact c1 (ts.trans q); exact c2 (ts.trans q); exact c3 (ts.trans q), CB_val f.2.2⟩⟩⟩

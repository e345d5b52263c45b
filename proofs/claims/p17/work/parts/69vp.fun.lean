/-! the reference's reader against the machine: numbers, factors, sums (printed by fn18.py) -/
theorem MI.f {n h : Int} {m b : Nat} {P : PS} (hM : MI n (m, b, h, P)) : 0 ≤ P.1.1 ∧ P.1.1 ≤ n ∧ P.1.2.1 ≤ 6 ∧ (P.1.2.2.2 : Int) ≤ P.1.2.1 + P.1.1 ∧ WS P := ⟨hM.1.1, hM.1.2, hM.2.1.1, hM.2.1.2, hM.2.2.2.1⟩
/-- what a reading method of the reference does -/
def RK (t : Int → Int) (c : CF) (good : PS → Prop) (M : Mem) (r : Option Value) (M1 : Mem) : Prop := RX M M1 ∧ ((∃ P', r = some (.int 1) ∧ good P' ∧ RR M1 P') ∨ (r = some (.int 0) ∧ RB t c M1))
theorem RK.pre {t : Int → Int} {c c' : CF} {g g' : PS → Prop} {M M2 M1 : Mem} {r : Option Value} (hx : RX M M2) (hr : Rch t c c') (h : RK t c' g M2 r M1) (hg : ∀ P', g P' → g' P') : RK t c g' M r M1 := by
  obtain ⟨a, b⟩ := h
  refine ⟨hx.tr a, ?_⟩
  rcases b with ⟨P', b1, b2, b3⟩ | ⟨b1, b2⟩
  · exact Or.inl ⟨P', b1, hg P' b2, b3⟩
  · exact Or.inr ⟨b1, b2.pre hr⟩
theorem pHas_cong {r r' : PS} {b : Nat} : ∀ n, (∀ k, k < n → r'.2.2 k = r.2.2 k) → pHas r' b n = pHas r b n
  | 0, _ => rfl
  | n + 1, h => by
    show (pHas r' b n || (decide (b ≤ n) && decide (r'.2.2 n / 1048576 = 14))) = (pHas r b n || (decide (b ≤ n) && decide (r.2.2 n / 1048576 = 14)))
    rw [pHas_cong n (fun k hk => h k (by omega)), h n (by omega)]
theorem pHas_pop {P Q : PS} {b : Nat} (hw : 1 ≤ P.1.2.2.2) (e : Q.1.2.2.2 = P.1.2.2.2 - 1) (hs : ∀ k, Q.2.2 k = P.2.2 k) (h : ¬ P.2.2 (P.1.2.2.2 - 1) / 1048576 = 14) : pHas Q b Q.1.2.2.2 = pHas P b P.1.2.2.2 := by
  rw [e, pHas_cong (r := P) _ (fun k _ => hs k)]
  obtain ⟨w, hw2⟩ : ∃ w, P.1.2.2.2 = w + 1 := ⟨P.1.2.2.2 - 1, by omega⟩
  rw [hw2] at h ⊢
  show pHas P b w = (pHas P b w || (decide (b ≤ w) && decide (P.2.2 w / 1048576 = 14)))
  rw [decide_eq_false (show ¬ P.2.2 w / 1048576 = 14 from h), Bool.and_false, Bool.or_false]
theorem pHas_none {P : PS} {b : Nat} : ∀ n, (∀ j, b ≤ j → j < n → ¬ P.2.2 j / 1048576 = 14) → pHas P b n = false
  | 0, _ => rfl
  | n + 1, h => by
    show (pHas P b n || (decide (b ≤ n) && decide (P.2.2 n / 1048576 = 14))) = false
    rw [pHas_none n (fun j h1 h2 => h j h1 (by omega))]
    by_cases q : b ≤ n
    · rw [decide_eq_false (h n q (by omega)), Bool.and_false]
      rfl
    · rw [decide_eq_false q]
      rfl
/-- what waits of a sum is closed -/
def CLO (t : Int → Int) (b : Nat) (h0 : Int) (P P' : PS) : Prop := Rch t (1, b, h0, P) (1, b, h0, P') ∧ P'.1.1 = P.1.1 ∧ ¬ (4 ≤ pTop P' ∧ pTop P' ≤ 6) ∧ ¬ ((pTop P' = 2 ∨ pTop P' = 3) ∧ cSum (t P'.1.1) < 4) ∧ pHas P' b P'.1.2.2.2 = pHas P b P.1.2.2.2
theorem CLO.go {t : Int → Int} {b : Nat} {h0 : Int} {P P' : PS} (hc : (4 ≤ pTop P ∧ pTop P ≤ 6) ∨ ((pTop P = 2 ∨ pTop P = 3) ∧ cSum (t P.1.1) < 4)) (h : CLO t b h0 (pPop (pEm P (pTop P * 1048576))) P') : CLO t b h0 P P' := by
  obtain ⟨a1, a2, a3, a4, a5⟩ := h
  have s1 : sm t (1, b, h0, P) = (1, b, h0, pPop (pEm P (pTop P * 1048576))) := by
    rcases hc with q | q
    · exact sA_mul q
    · exact sA_add q.1 q.2
  obtain ⟨w1, w2⟩ := pTop_w (r := P) rfl (by omega)
  refine ⟨Rch.go s1 a1, a2, a3, a4, a5.trans (pHas_pop w1 rfl (fun _ => rfl) (by omega))⟩
theorem clo_ex {t : Int → Int} {b : Nat} {h0 : Int} : ∀ (w : Nat) (P : PS), P.1.2.2.2 = w → ∃ P', CLO t b h0 P P'
  | 0, P, e => by
    have z := pTop_z e
    exact ⟨P, Rch.rf, rfl, by omega, by omega, rfl⟩
  | w + 1, P, e => by
    by_cases hc : (4 ≤ pTop P ∧ pTop P ≤ 6) ∨ ((pTop P = 2 ∨ pTop P = 3) ∧ cSum (t P.1.1) < 4)
    · obtain ⟨P', h⟩ := clo_ex w (pPop (pEm P (pTop P * 1048576))) (show P.1.2.2.2 - 1 = w by omega)
      exact ⟨P', h.go hc⟩
    · exact ⟨P, Rch.rf, rfl, by omega, by omega, rfl⟩
theorem clo_lp {t : Int → Int} {N h0 : Int} {b : Nat} {x : Int32} (hn : N ≤ 160) : ∀ (n d : Nat) (L : MLoc) (M : Mem) (r : Option Value) (M1 : Mem) (P : PS), mLd L 0 = some (.ref 181) → mLd L 1 = some (.int x) → RR M P → RT M t N → MI N (1, b, h0, P) → (x.toInt = 0 ∨ cSum (t P.1.1) < 4) → (¬ x.toInt = 0 ∨ ¬ cSum (t P.1.1) < 4) → En n d 202 0 L [] M r M1 → r = none ∧ RX M M1 ∧ ∃ P', CLO t b h0 P P' ∧ RR M1 P' := by
  intro n
  induction n with
  | zero => intro d L M r M1 P _ _ _ _ _ _ _ h; exact (En.zero (mi := 202) (pc := 0) (len := 1) rfl h).elim
  | succ n ih =>
    intro d L M r M1 P l0 l1 hR hT hM hx1 hx2 h
    obtain ⟨p0, pN0, o6, ow, hW⟩ := hM.f
    have wb := hR.2.2.2.2.2.1
    have tt := top_t hR hW
    have key : ((4 ≤ pTop P ∧ pTop P ≤ 6) ∨ ((pTop P = 2 ∨ pTop P = 3) ∧ cSum (t P.1.1) < 4)) → En n d 202 37 L [] M r M1 → r = none ∧ RX M M1 ∧ ∃ P', CLO t b h0 P P' ∧ RR M1 P' := by
      intro kc h
      obtain ⟨w1, w2⟩ := pTop_w (r := P) rfl (by omega)
      replace h := eAload (mi := 202) (pc := 37) (len := 1) (i := 0) rfl l0 h
      replace h := eAload (mi := 202) (pc := 38) (len := 1) (i := 0) rfl l0 h
      replace h := eCallP (mi := 202) (pc := 39) (len := 3) (j := 199) (as := [.ref 181]) (rest := [.ref 181]) rfl (Or.inr (Or.inl rfl)) (by decide) rfl rfl (fun _ _ _ _ g => topV_en hR.1 g) h
      replace h := eConst (mi := 202) (pc := 42) (len := 1) (v := 0) rfl h
      obtain ⟨r1, N2, g3, h⟩ := eCall (mi := 202) (pc := 43) (len := 3) (j := 197) (as := [.ref 181, .int (topV M), .int (0 : Int32)]) (rest := []) rfl (Or.inr (Or.inl rfl)) (by decide) rfl rfl h
      obtain ⟨q7, R4, X5⟩ := nte_ok (val := pTop P * 1048576) hR (by rw [tt]; omega) (by rw [tt]; omega) (by decide) (by decide) (by rw [tt]; show 1048576 * pTop P + 0 = pTop P * 1048576; omega) g3
      rw [q7] at h
      have X6 := RX.rf.tr X5
      replace h := eAload (mi := 202) (pc := 46) (len := 1) (i := 0) rfl l0 h
      replace h := eAload (mi := 202) (pc := 47) (len := 1) (i := 0) rfl l0 h
      replace h := eGetI (a := 181) (j := 1131) R4.1 (by decide) (by decide) rfl (mi := 202) (pc := 48) (len := 3) rfl h
      replace h := eConst (mi := 202) (pc := 51) (len := 1) (v := 1) rfl h
      replace h := eSub (mi := 202) (pc := 52) (len := 1) rfl h
      obtain ⟨N8, eN8⟩ : ∃ X_, X_ = mPut N2 181 31 (.int ((iv N2 181 31) - (1 : Int32))) := ⟨_, rfl⟩
      replace h := ePutE (a := 181) (f := 31) (N := N8) rfl eN8 (mi := 202) (pc := 53) (len := 3) (j := 1131) rfl h
      have hS9 : Sh N8 := by rw [eN8]; exact R4.1.put (by decide) (by decide) rfl
      have R10 : RR N8 (pPop (pEm P (pTop P * 1048576))) := by rw [eN8]; exact R4.p31 (w := P.1.2.2.2 - 1) (by have q := dc1 R4.2.2.2.2.1 (by show -1000 ≤ (P.1.2.2.2 : Int); omega) (by show (P.1.2.2.2 : Int) ≤ 1000; omega); rw [q]; show (P.1.2.2.2 : Int) - 1 = ((P.1.2.2.2 - 1 : Nat) : Int); omega) (by omega)
      have X11 : RX M N8 := X6.tr (by rw [eN8]; exact RX.put (Or.inl ⟨rfl, by decide⟩))
      replace h := eGoto (mi := 202) (pc := 56) (len := 3) (t := 0) rfl rfl h
      have sx : sm t (1, b, h0, P) = (1, b, h0, pPop (pEm P (pTop P * 1048576))) := by rcases kc with q | q; exact sA_mul q; exact sA_add q.1 q.2
      have hM2 := sm_mi hn hT.tl hM
      rw [sx] at hM2
      obtain ⟨i1, i2, P3, i3, i4⟩ := ih _ _ _ _ _ (pPop (pEm P (pTop P * 1048576))) l0 l1 R10 (hT.x X11) hM2 hx1 hx2 h
      exact ⟨i1, X11.tr i2, P3, i3.go kc, i4⟩
    replace h := eAloadS (mi := 202) (pc := 0) (len := 1) (i := 0) rfl l0 h
    replace h := eCallP (mi := 202) (pc := 1) (len := 3) (j := 199) (as := [.ref 181]) (rest := []) rfl (Or.inr (Or.inl rfl)) (by decide) rfl rfl (fun _ _ _ _ g => topV_en hR.1 g) h
    replace h := eConst (mi := 202) (pc := 4) (len := 1) (v := 4) rfl h
    rcases eIc (mi := 202) (pc := 5) (len := 3) (t := 17) rfl rfl h with ⟨c1, h⟩ | ⟨c1, h⟩
    · replace c1 : (topV M).toInt < 4 := mC_lt.1 c1
      replace h := eIload (mi := 202) (pc := 17) (len := 1) (i := 1) rfl l1 h
      rcases eIf (mi := 202) (pc := 18) (len := 3) (t := 59) rfl rfl h with ⟨c2, h⟩ | ⟨c2, h⟩
      · replace c2 : x.toInt = 0 := mC_eq.1 c2
        obtain ⟨e1, e2⟩ := eRetV (mi := 202) (pc := 59) (len := 1) rfl h
        rw [e2]
        exact ⟨e1, RX.rf, P, ⟨Rch.rf, rfl, by omega, by omega, rfl⟩, hR⟩
      · replace c2 : ¬ x.toInt = 0 := mC_eq.2 c2
        replace h := eAload (mi := 202) (pc := 21) (len := 1) (i := 0) rfl l0 h
        replace h := eCallP (mi := 202) (pc := 22) (len := 3) (j := 199) (as := [.ref 181]) (rest := []) rfl (Or.inr (Or.inl rfl)) (by decide) rfl rfl (fun _ _ _ _ g => topV_en hR.1 g) h
        replace h := eConst (mi := 202) (pc := 25) (len := 1) (v := 2) rfl h
        rcases eIc (mi := 202) (pc := 26) (len := 3) (t := 37) rfl rfl h with ⟨c3, h⟩ | ⟨c3, h⟩
        · replace c3 : (topV M).toInt = 2 := mC_eq.1 c3
          exact key (by omega) h
        · replace c3 : ¬ (topV M).toInt = 2 := mC_eq.2 c3
          replace h := eAload (mi := 202) (pc := 29) (len := 1) (i := 0) rfl l0 h
          replace h := eCallP (mi := 202) (pc := 30) (len := 3) (j := 199) (as := [.ref 181]) (rest := []) rfl (Or.inr (Or.inl rfl)) (by decide) rfl rfl (fun _ _ _ _ g => topV_en hR.1 g) h
          replace h := eConst (mi := 202) (pc := 33) (len := 1) (v := 3) rfl h
          rcases eIc (mi := 202) (pc := 34) (len := 3) (t := 59) rfl rfl h with ⟨c4, h⟩ | ⟨c4, h⟩
          · replace c4 : ¬ (topV M).toInt = 3 := mC_ne.1 c4
            obtain ⟨e1, e2⟩ := eRetV (mi := 202) (pc := 59) (len := 1) rfl h
            rw [e2]
            exact ⟨e1, RX.rf, P, ⟨Rch.rf, rfl, by omega, by omega, rfl⟩, hR⟩
          · replace c4 : (topV M).toInt = 3 := mC_ne.2 c4
            exact key (by omega) h
    · replace c1 : ¬ (topV M).toInt < 4 := mC_lt.2 c1
      replace h := eAload (mi := 202) (pc := 8) (len := 1) (i := 0) rfl l0 h
      replace h := eCallP (mi := 202) (pc := 9) (len := 3) (j := 199) (as := [.ref 181]) (rest := []) rfl (Or.inr (Or.inl rfl)) (by decide) rfl rfl (fun _ _ _ _ g => topV_en hR.1 g) h
      replace h := eConst (mi := 202) (pc := 12) (len := 2) (v := 6) rfl h
      rcases eIc (mi := 202) (pc := 14) (len := 3) (t := 37) rfl rfl h with ⟨c5, h⟩ | ⟨c5, h⟩
      · replace c5 : ¬ 6 < (topV M).toInt := mC_le.1 c5
        exact key (by omega) h
      · replace c5 : 6 < (topV M).toInt := mC_le.2 c5
        replace h := eIload (mi := 202) (pc := 17) (len := 1) (i := 1) rfl l1 h
        rcases eIf (mi := 202) (pc := 18) (len := 3) (t := 59) rfl rfl h with ⟨c6, h⟩ | ⟨c6, h⟩
        · replace c6 : x.toInt = 0 := mC_eq.1 c6
          obtain ⟨e1, e2⟩ := eRetV (mi := 202) (pc := 59) (len := 1) rfl h
          rw [e2]
          exact ⟨e1, RX.rf, P, ⟨Rch.rf, rfl, by omega, by omega, rfl⟩, hR⟩
        · replace c6 : ¬ x.toInt = 0 := mC_eq.2 c6
          replace h := eAload (mi := 202) (pc := 21) (len := 1) (i := 0) rfl l0 h
          replace h := eCallP (mi := 202) (pc := 22) (len := 3) (j := 199) (as := [.ref 181]) (rest := []) rfl (Or.inr (Or.inl rfl)) (by decide) rfl rfl (fun _ _ _ _ g => topV_en hR.1 g) h
          replace h := eConst (mi := 202) (pc := 25) (len := 1) (v := 2) rfl h
          rcases eIc (mi := 202) (pc := 26) (len := 3) (t := 37) rfl rfl h with ⟨c7, h⟩ | ⟨c7, h⟩
          · replace c7 : (topV M).toInt = 2 := mC_eq.1 c7
            exact key (by omega) h
          · replace c7 : ¬ (topV M).toInt = 2 := mC_eq.2 c7
            replace h := eAload (mi := 202) (pc := 29) (len := 1) (i := 0) rfl l0 h
            replace h := eCallP (mi := 202) (pc := 30) (len := 3) (j := 199) (as := [.ref 181]) (rest := []) rfl (Or.inr (Or.inl rfl)) (by decide) rfl rfl (fun _ _ _ _ g => topV_en hR.1 g) h
            replace h := eConst (mi := 202) (pc := 33) (len := 1) (v := 3) rfl h
            rcases eIc (mi := 202) (pc := 34) (len := 3) (t := 59) rfl rfl h with ⟨c8, h⟩ | ⟨c8, h⟩
            · replace c8 : ¬ (topV M).toInt = 3 := mC_ne.1 c8
              obtain ⟨e1, e2⟩ := eRetV (mi := 202) (pc := 59) (len := 1) rfl h
              rw [e2]
              exact ⟨e1, RX.rf, P, ⟨Rch.rf, rfl, by omega, by omega, rfl⟩, hR⟩
            · replace c8 : (topV M).toInt = 3 := mC_ne.2 c8
              exact key (by omega) h
theorem clo_ok {t : Int → Int} {N h0 : Int} {b : Nat} {x : Int32} (hn : N ≤ 160) {n d : Nat} {M : Mem} {r : Option Value} {M1 : Mem} {P : PS} (hR : RR M P) (hT : RT M t N) (hM : MI N (1, b, h0, P)) (hx1 : x.toInt = 0 ∨ cSum (t P.1.1) < 4) (hx2 : ¬ x.toInt = 0 ∨ ¬ cSum (t P.1.1) < 4) (h : En n d 202 0 (lv_args 0 [.ref 181, .int x]) [] M r M1) : r = none ∧ RX M M1 ∧ ∃ P', CLO t b h0 P P' ∧ RR M1 P' := clo_lp hn n d _ M r M1 P rfl rfl hR hT hM hx1 hx2 h
theorem num_val {x y : Int32} {a c : Int} (hx : x.toInt = a) (hy : y.toInt = c) (a0 : 0 ≤ a) (a1 : a ≤ 99999) (c0 : 48 ≤ c) (c1 : c ≤ 57) : ((10 : Int32) * x + y - 48).toInt = a * 10 + (c - 48) := by
  have q1 : ((10 : Int32) * x).toInt = 10 * x.toInt := i32_mul (x := 10) (by show -2147483648 ≤ 10 * x.toInt; omega) (by show 10 * x.toInt ≤ 2147483647; omega)
  have q2 : ((10 : Int32) * x + y).toInt = 10 * x.toInt + y.toInt := by rw [i32_add (by omega) (by omega), q1]
  rw [i32_sub (by rw [q2]; show -2147483648 ≤ 10 * x.toInt + y.toInt - 48; omega) (by rw [q2]; show 10 * x.toInt + y.toInt - 48 ≤ 2147483647; omega), q2, hx, hy]
  show 10 * a + c - 48 = a * 10 + (c - 48)
  omega
/-- a number is read: so many digits; or a sixth -/
def NUO (t : Int → Int) (b : Nat) (h0 : Int) (M : Mem) (P : PS) (r : Option Value) (M1 : Mem) : Prop := RX M M1 ∧ ((∃ k : Nat, k ≤ 5 ∧ (∀ i : Nat, i < k → cDig (t (P.1.1 + i)) = true) ∧ cDig (t (P.1.1 + k)) = false ∧ r = some (.int 1) ∧ RR M1 (pN P k) ∧ (iv M1 181 33).toInt = dgV t P.1.1 k) ∨ (r = some (.int 0) ∧ RB t (0, b, h0, P) M1))
theorem numr_lp {t : Int → Int} {N h0 : Int} {b : Nat} {P : PS} {f : Int32} (hn : N ≤ 160) (p0 : 0 ≤ P.1.1) (p1 : P.1.1 ≤ N) (hf : f.toInt = P.1.1) : ∀ (m k : Nat), k + m = 5 → ∀ (n d : Nat) (L : MLoc) (M : Mem) (r : Option Value) (M1 : Mem), mLd L 0 = some (.ref 181) → mLd L 1 = some (.int f) → RR M (pN P k) → RT M t N → (iv M 181 33).toInt = dgV t P.1.1 k → (∀ i : Nat, i < k → cDig (t (P.1.1 + i)) = true) → En n d 196 10 L [] M r M1 → NUO t b h0 M P r M1 := by
  have f5 : (f + (5 : Int32)).toInt = P.1.1 + 5 := by rw [i32_add (by rw [hf]; show -2147483648 ≤ P.1.1 + 5; omega) (by rw [hf]; show P.1.1 + 5 ≤ 2147483647; omega), hf]; rfl
  intro m
  induction m with
  | zero =>
    intro k hk n d L M r M1 l0 l1 hR hT hv hall h
    have k5 : k = 5 := by omega
    have th : (hereV M).toInt = t (P.1.1 + k) := here_t hR hT (by show 0 ≤ P.1.1 + (k : Int); omega)
    replace h := eAload (mi := 196) (pc := 10) (len := 1) (i := 0) rfl l0 h
    replace h := eCallP (mi := 196) (pc := 11) (len := 3) (j := 193) (as := [.ref 181]) (rest := []) rfl (Or.inr (Or.inl rfl)) (by decide) rfl rfl (fun _ _ _ _ g => digV_en hR.1 g) h
    rcases eIf (mi := 196) (pc := 14) (len := 3) (t := 69) rfl rfl h with ⟨c1, h⟩ | ⟨c1, h⟩
    · replace c1 : digV M = false := mB_eq.1 c1
      replace h := eConst (mi := 196) (pc := 69) (len := 1) (v := 1) rfl h
      obtain ⟨e1, e2⟩ := eRetI (mi := 196) (pc := 70) (len := 1) rfl h
      rw [e2]
      have hd0 : cDig (t (P.1.1 + k)) = false := by rw [← th, ← digV_c]; exact c1
      exact ⟨RX.rf, Or.inl ⟨k, by omega, hall, hd0, e1, hR, hv⟩⟩
    · replace c1 : digV M = true := mB_eq.2 c1
      have hd1 : cDig (t (P.1.1 + k)) = true := by rw [← th, ← digV_c]; exact c1
      have lt : P.1.1 + (k : Int) < N := hT.tl _ (by have := cDig_t hd1; omega)
      replace h := eAload (mi := 196) (pc := 17) (len := 1) (i := 0) rfl l0 h
      replace h := eGetI (a := 181) (j := 1126) hR.1 (by decide) (by decide) rfl (mi := 196) (pc := 18) (len := 3) rfl h
      replace h := eIload (mi := 196) (pc := 21) (len := 1) (i := 1) rfl l1 h
      replace h := eConst (mi := 196) (pc := 22) (len := 1) (v := 5) rfl h
      replace h := eAdd (mi := 196) (pc := 23) (len := 1) rfl h
      rcases eIc (mi := 196) (pc := 24) (len := 3) (t := 37) rfl rfl h with ⟨c2, h⟩ | ⟨c2, h⟩
      · replace c2 : ¬ (iv M 181 26).toInt = (f + (5 : Int32)).toInt := mC_ne.1 c2
        exact absurd (show (iv M 181 26).toInt = (f + (5 : Int32)).toInt by rw [hR.2.1, f5]; show P.1.1 + (k : Int) = P.1.1 + 5; omega) c2
      · replace c2 : (iv M 181 26).toInt = (f + (5 : Int32)).toInt := mC_ne.2 c2
        replace h := eAload (mi := 196) (pc := 27) (len := 1) (i := 0) rfl l0 h
        replace h := eConst (mi := 196) (pc := 28) (len := 1) (v := 2) rfl h
        replace h := eAload (mi := 196) (pc := 29) (len := 1) (i := 0) rfl l0 h
        replace h := eGetI (a := 181) (j := 1126) hR.1 (by decide) (by decide) rfl (mi := 196) (pc := 30) (len := 3) rfl h
        obtain ⟨r3, N4, g5, h⟩ := eCall (mi := 196) (pc := 33) (len := 3) (j := 194) (as := [.ref 181, .int (2 : Int32), .int (iv M 181 26)]) (rest := []) rfl (Or.inr (Or.inl rfl)) (by decide) rfl rfl h
        obtain ⟨q1, XW, BW, _⟩ := wr_ok (k := 2) (c := (0, b, h0, P)) hR (by show 0 ≤ P.1.1 + (k : Int); omega) (by show P.1.1 + (k : Int) ≤ 160; omega) (by decide) (by decide) (Rch.go (by subst k5; exact sF_six hall hd1) Rch.rf) g5
        rw [q1] at h
        obtain ⟨e1, e2⟩ := eRetI (mi := 196) (pc := 36) (len := 1) rfl h
        rw [e2]
        exact ⟨XW, Or.inr ⟨e1, BW⟩⟩
  | succ m ih =>
    intro k hk n d L M r M1 l0 l1 hR hT hv hall h
    have th : (hereV M).toInt = t (P.1.1 + k) := here_t hR hT (by show 0 ≤ P.1.1 + (k : Int); omega)
    replace h := eAload (mi := 196) (pc := 10) (len := 1) (i := 0) rfl l0 h
    replace h := eCallP (mi := 196) (pc := 11) (len := 3) (j := 193) (as := [.ref 181]) (rest := []) rfl (Or.inr (Or.inl rfl)) (by decide) rfl rfl (fun _ _ _ _ g => digV_en hR.1 g) h
    rcases eIf (mi := 196) (pc := 14) (len := 3) (t := 69) rfl rfl h with ⟨c1, h⟩ | ⟨c1, h⟩
    · replace c1 : digV M = false := mB_eq.1 c1
      replace h := eConst (mi := 196) (pc := 69) (len := 1) (v := 1) rfl h
      obtain ⟨e1, e2⟩ := eRetI (mi := 196) (pc := 70) (len := 1) rfl h
      rw [e2]
      have hd0 : cDig (t (P.1.1 + k)) = false := by rw [← th, ← digV_c]; exact c1
      exact ⟨RX.rf, Or.inl ⟨k, by omega, hall, hd0, e1, hR, hv⟩⟩
    · replace c1 : digV M = true := mB_eq.2 c1
      have hd1 : cDig (t (P.1.1 + k)) = true := by rw [← th, ← digV_c]; exact c1
      have lt : P.1.1 + (k : Int) < N := hT.tl _ (by have := cDig_t hd1; omega)
      replace h := eAload (mi := 196) (pc := 17) (len := 1) (i := 0) rfl l0 h
      replace h := eGetI (a := 181) (j := 1126) hR.1 (by decide) (by decide) rfl (mi := 196) (pc := 18) (len := 3) rfl h
      replace h := eIload (mi := 196) (pc := 21) (len := 1) (i := 1) rfl l1 h
      replace h := eConst (mi := 196) (pc := 22) (len := 1) (v := 5) rfl h
      replace h := eAdd (mi := 196) (pc := 23) (len := 1) rfl h
      rcases eIc (mi := 196) (pc := 24) (len := 3) (t := 37) rfl rfl h with ⟨c2, h⟩ | ⟨c2, h⟩
      · replace c2 : ¬ (iv M 181 26).toInt = (f + (5 : Int32)).toInt := mC_ne.1 c2
        replace h := eAload (mi := 196) (pc := 37) (len := 1) (i := 0) rfl l0 h
        replace h := eConst (mi := 196) (pc := 38) (len := 2) (v := 10) rfl h
        replace h := eAload (mi := 196) (pc := 40) (len := 1) (i := 0) rfl l0 h
        replace h := eGetI (a := 181) (j := 1133) hR.1 (by decide) (by decide) rfl (mi := 196) (pc := 41) (len := 3) rfl h
        replace h := eMul (mi := 196) (pc := 44) (len := 1) rfl h
        replace h := eAload (mi := 196) (pc := 45) (len := 1) (i := 0) rfl l0 h
        replace h := eCallP (mi := 196) (pc := 46) (len := 3) (j := 192) (as := [.ref 181]) (rest := [.int ((10 : Int32) * (iv M 181 33)), .ref 181]) rfl (Or.inr (Or.inl rfl)) (by decide) rfl rfl (fun _ _ _ _ g => hereV_en hR.1 g) h
        replace h := eAdd (mi := 196) (pc := 49) (len := 1) rfl h
        replace h := eConst (mi := 196) (pc := 50) (len := 2) (v := 48) rfl h
        replace h := eSub (mi := 196) (pc := 52) (len := 1) rfl h
        obtain ⟨N3, eN3⟩ : ∃ X_, X_ = mPut M 181 33 (.int ((((10 : Int32) * (iv M 181 33)) + (hereV M)) - (48 : Int32))) := ⟨_, rfl⟩
        replace h := ePutE (a := 181) (f := 33) (N := N3) rfl eN3 (mi := 196) (pc := 53) (len := 3) (j := 1133) rfl h
        have hS4 : Sh N3 := by rw [eN3]; exact hR.1.put (by decide) (by decide) rfl
        have R5 : RR N3 (pN P k) := by rw [eN3]; exact hR.pot (Or.inr rfl)
        have X6 : RX M N3 := RX.rf.tr (by rw [eN3]; exact RX.put (Or.inl ⟨rfl, by decide⟩))
        have dc := cDig_t hd1
        have rg := dgV_5 hall (by omega)
        have nv : (iv N3 181 33).toInt = dgV t P.1.1 (k + 1) := by rw [eN3, iv_put_eq hR.1 (by decide) (by decide) (by decide)]; exact num_val hv th rg.1 rg.2 dc.1 dc.2
        replace h := eAload (mi := 196) (pc := 56) (len := 1) (i := 0) rfl l0 h
        replace h := eAload (mi := 196) (pc := 57) (len := 1) (i := 0) rfl l0 h
        replace h := eGetI (a := 181) (j := 1126) R5.1 (by decide) (by decide) rfl (mi := 196) (pc := 58) (len := 3) rfl h
        replace h := eConst (mi := 196) (pc := 61) (len := 1) (v := 1) rfl h
        replace h := eAdd (mi := 196) (pc := 62) (len := 1) rfl h
        obtain ⟨N7, eN7⟩ : ∃ X_, X_ = mPut N3 181 26 (.int ((iv N3 181 26) + (1 : Int32))) := ⟨_, rfl⟩
        replace h := ePutE (a := 181) (f := 26) (N := N7) rfl eN7 (mi := 196) (pc := 63) (len := 3) (j := 1126) rfl h
        have hS8 : Sh N7 := by rw [eN7]; exact R5.1.put (by decide) (by decide) rfl
        have R9 : RR N7 (pN P (k + 1)) := by rw [eN7]; exact R5.p26 (p := P.1.1 + ((k + 1 : Nat) : Int)) (by have q := ic1 R5.2.1 (by show -1000 ≤ P.1.1 + (k : Int); omega) (by show P.1.1 + (k : Int) ≤ 1000; omega); rw [q]; show P.1.1 + (k : Int) + 1 = P.1.1 + ((k + 1 : Nat) : Int); omega)
        have X10 : RX M N7 := X6.tr (by rw [eN7]; exact RX.put (Or.inl ⟨rfl, by decide⟩))
        have nv2 : (iv N7 181 33).toInt = dgV t P.1.1 (k + 1) := by rw [eN7, iv_put_ne (Or.inr (by decide))]; exact nv
        replace h := eGoto (mi := 196) (pc := 66) (len := 3) (t := 10) rfl rfl h
        have hall2 : ∀ i : Nat, i < k + 1 → cDig (t (P.1.1 + i)) = true := by
          intro i hi
          by_cases q : i = k
          · subst q
            exact hd1
          · exact hall i (by omega)
        obtain ⟨i1, i2⟩ := ih (k + 1) (by omega) _ _ _ _ _ _ l0 l1 R9 (hT.x X10) nv2 hall2 h
        exact ⟨X10.tr i1, i2⟩
      · replace c2 : (iv M 181 26).toInt = (f + (5 : Int32)).toInt := mC_ne.2 c2
        replace h := eAload (mi := 196) (pc := 27) (len := 1) (i := 0) rfl l0 h
        replace h := eConst (mi := 196) (pc := 28) (len := 1) (v := 2) rfl h
        replace h := eAload (mi := 196) (pc := 29) (len := 1) (i := 0) rfl l0 h
        replace h := eGetI (a := 181) (j := 1126) hR.1 (by decide) (by decide) rfl (mi := 196) (pc := 30) (len := 3) rfl h
        obtain ⟨r11, N12, g13, h⟩ := eCall (mi := 196) (pc := 33) (len := 3) (j := 194) (as := [.ref 181, .int (2 : Int32), .int (iv M 181 26)]) (rest := []) rfl (Or.inr (Or.inl rfl)) (by decide) rfl rfl h
        exact absurd (c2) (by rw [hR.2.1, f5]; show ¬ P.1.1 + (k : Int) = P.1.1 + 5; omega)
theorem numr_ok {t : Int → Int} {N h0 : Int} {b : Nat} {P : PS} (hn : N ≤ 160) {n d : Nat} {M : Mem} {r : Option Value} {M1 : Mem} (hR : RR M P) (hT : RT M t N) (p0 : 0 ≤ P.1.1) (p1 : P.1.1 ≤ N) (h : En n d 196 0 (lv_args 0 [.ref 181]) [] M r M1) : NUO t b h0 M P r M1 := by
  replace h := eAload (mi := 196) (pc := 0) (len := 1) (i := 0) rfl rfl h
  replace h := eGetI (a := 181) (j := 1126) hR.1 (by decide) (by decide) rfl (mi := 196) (pc := 1) (len := 3) rfl h
  replace h := eIstore (mi := 196) (pc := 4) (len := 1) (i := 1) rfl (by decide) h
  replace h := eAload (mi := 196) (pc := 5) (len := 1) (i := 0) rfl rfl h
  replace h := eConst (mi := 196) (pc := 6) (len := 1) (v := 0) rfl h
  obtain ⟨N1, eN1⟩ : ∃ X_, X_ = mPut M 181 33 (.int (0 : Int32)) := ⟨_, rfl⟩
  replace h := ePutE (a := 181) (f := 33) (N := N1) rfl eN1 (mi := 196) (pc := 7) (len := 3) (j := 1133) rfl h
  have hS2 : Sh N1 := by rw [eN1]; exact hR.1.put (by decide) (by decide) rfl
  have R3 : RR N1 P := by rw [eN1]; exact hR.pot (Or.inr rfl)
  have X4 : RX M N1 := RX.rf.tr (by rw [eN1]; exact RX.put (Or.inl ⟨rfl, by decide⟩))
  have nv : (iv N1 181 33).toInt = dgV t P.1.1 0 := by rw [eN1, iv_put_eq hR.1 (by decide) (by decide) (by decide)]; rfl
  obtain ⟨i1, i2⟩ := numr_lp (b := b) (h0 := h0) (P := P) hn p0 p1 hR.2.1 5 0 rfl _ _ _ _ _ _ rfl rfl (show RR N1 (pN P 0) by have q : pN P 0 = P := (by unfold pN; rw [show P.1.1 + ((0 : Nat) : Int) = P.1.1 by omega]); rw [q]; exact R3) (hT.x X4) nv (fun i hi => absurd hi (Nat.not_lt_zero i)) h
  exact ⟨X4.tr i1, i2⟩
theorem rfac_lp {t : Int → Int} {N h0 : Int} {b : Nat} (hn : N ≤ 160) : ∀ (n d : Nat) (L : MLoc) (M : Mem) (r : Option Value) (M1 : Mem) (P : PS), mLd L 0 = some (.ref 181) → RR M P → RT M t N → MI N (0, b, h0, P) → En n d 203 0 L [] M r M1 → RK t (0, b, h0, P) (fun P' => Rch t (0, b, h0, P) (1, b, h0, P')) M r M1 := by
  intro n
  induction n with
  | zero => intro d L M r M1 P _ _ _ _ h; exact (En.zero (mi := 203) (pc := 0) (len := 1) rfl h).elim
  | succ n ih =>
    intro d L M r M1 P l0 hR hT hM h
    obtain ⟨p0, pN0, o6, ow, hW⟩ := hM.f
    have th : (hereV M).toInt = t P.1.1 := here_t hR hT p0
    replace h := eAloadS (mi := 203) (pc := 0) (len := 1) (i := 0) rfl l0 h
    replace h := eCallP (mi := 203) (pc := 1) (len := 3) (j := 192) (as := [.ref 181]) (rest := []) rfl (Or.inr (Or.inl rfl)) (by decide) rfl rfl (fun _ _ _ _ g => hereV_en hR.1 g) h
    replace h := eConst (mi := 203) (pc := 4) (len := 2) (v := 91) rfl h
    rcases eIc (mi := 203) (pc := 6) (len := 3) (t := 20) rfl rfl h with ⟨c1, h⟩ | ⟨c1, h⟩
    · replace c1 : ¬ (hereV M).toInt = 91 := mC_ne.1 c1
      replace h := eAload (mi := 203) (pc := 20) (len := 1) (i := 0) rfl l0 h
      replace h := eCallP (mi := 203) (pc := 21) (len := 3) (j := 193) (as := [.ref 181]) (rest := []) rfl (Or.inr (Or.inl rfl)) (by decide) rfl rfl (fun _ _ _ _ g => digV_en hR.1 g) h
      rcases eIf (mi := 203) (pc := 24) (len := 3) (t := 47) rfl rfl h with ⟨c2, h⟩ | ⟨c2, h⟩
      · replace c2 : digV M = false := mB_eq.1 c2
        replace h := eAload (mi := 203) (pc := 47) (len := 1) (i := 0) rfl l0 h
        replace h := eCallP (mi := 203) (pc := 48) (len := 3) (j := 192) (as := [.ref 181]) (rest := []) rfl (Or.inr (Or.inl rfl)) (by decide) rfl rfl (fun _ _ _ _ g => hereV_en hR.1 g) h
        obtain ⟨r3, N4, g5, h⟩ := eCall (mi := 203) (pc := 51) (len := 3) (j := 200) (as := [.int (hereV M)]) (rest := []) rfl (Or.inl rfl) (by decide) rfl rfl h
        have n91 : ¬ t P.1.1 = 91 := fun q => c1 (th.trans q)
        have hd : cDig (t P.1.1) = false := by rw [← th, ← digV_c]; exact c2
        obtain ⟨y, q1, ey, q2⟩ := fact_r g5
        rw [q1, q2] at h
        replace h := eIstore (mi := 203) (pc := 54) (len := 1) (i := 1) rfl (by decide) h
        replace h := eIload (mi := 203) (pc := 55) (len := 1) (i := 1) rfl mLd_st1_i h
        replace h := eConst (mi := 203) (pc := 56) (len := 1) (v := (-1)) rfl h
        rcases eIc (mi := 203) (pc := 57) (len := 3) (t := 70) rfl rfl h with ⟨c6, h⟩ | ⟨c6, h⟩
        · replace c6 : ¬ y.toInt = (-1) := mC_ne.1 c6
          replace h := eAload (mi := 203) (pc := 70) (len := 1) (i := 0) rfl (mLd_st1_ref (by decide) l0) h
          replace h := eConst (mi := 203) (pc := 71) (len := 1) (v := 1) rfl h
          replace h := eIload (mi := 203) (pc := 72) (len := 1) (i := 1) rfl mLd_st1_i h
          obtain ⟨r7, N8, g9, h⟩ := eCall (mi := 203) (pc := 73) (len := 3) (j := 197) (as := [.ref 181, .int (1 : Int32), .int y]) (rest := []) rfl (Or.inr (Or.inl rfl)) (by decide) rfl rfl h
          have nf : ¬ cFact (t P.1.1) = -1 := fun q => c6 (ey.trans (by rw [th]; exact q))
          have cr := cFact_rg nf
          rw [th] at ey
          obtain ⟨q13, R10, X11⟩ := nte_ok (val := 1048576 + cFact (t P.1.1)) hR (by decide) (by decide) (by rw [ey]; exact cr.1) (by rw [ey]; omega) (by rw [ey]; show 1048576 * 1 + cFact (t P.1.1) = _; omega) g9
          rw [q13] at h
          have X12 := RX.rf.tr X11
          replace h := eAload (mi := 203) (pc := 76) (len := 1) (i := 0) rfl (mLd_st1_ref (by decide) l0) h
          replace h := eAload (mi := 203) (pc := 77) (len := 1) (i := 0) rfl (mLd_st1_ref (by decide) l0) h
          replace h := eGetI (a := 181) (j := 1126) R10.1 (by decide) (by decide) rfl (mi := 203) (pc := 78) (len := 3) rfl h
          replace h := eConst (mi := 203) (pc := 81) (len := 1) (v := 1) rfl h
          replace h := eAdd (mi := 203) (pc := 82) (len := 1) rfl h
          obtain ⟨N14, eN14⟩ : ∃ X_, X_ = mPut N8 181 26 (.int ((iv N8 181 26) + (1 : Int32))) := ⟨_, rfl⟩
          replace h := ePutE (a := 181) (f := 26) (N := N14) rfl eN14 (mi := 203) (pc := 83) (len := 3) (j := 1126) rfl h
          have hS15 : Sh N14 := by rw [eN14]; exact R10.1.put (by decide) (by decide) rfl
          have R16 : RR N14 (pAdv (pEm P (1048576 + cFact (t P.1.1)))) := by rw [eN14]; exact R10.p26 (p := P.1.1 + 1) (ic1 R10.2.1 (by show -1000 ≤ P.1.1; omega) (by show P.1.1 ≤ 1000; omega))
          have X17 : RX M N14 := X12.tr (by rw [eN14]; exact RX.put (Or.inl ⟨rfl, by decide⟩))
          replace h := eConst (mi := 203) (pc := 86) (len := 1) (v := 1) rfl h
          obtain ⟨e1, e2⟩ := eRetI (mi := 203) (pc := 87) (len := 1) rfl h
          rw [e2]
          exact ⟨X17, Or.inl ⟨_, e1, Rch.go (sF_let n91 hd nf) Rch.rf, R16⟩⟩
        · replace c6 : y.toInt = (-1) := mC_ne.2 c6
          replace h := eAload (mi := 203) (pc := 60) (len := 1) (i := 0) rfl (mLd_st1_ref (by decide) l0) h
          replace h := eConst (mi := 203) (pc := 61) (len := 1) (v := 1) rfl h
          replace h := eAload (mi := 203) (pc := 62) (len := 1) (i := 0) rfl (mLd_st1_ref (by decide) l0) h
          replace h := eGetI (a := 181) (j := 1126) hR.1 (by decide) (by decide) rfl (mi := 203) (pc := 63) (len := 3) rfl h
          obtain ⟨r18, N19, g20, h⟩ := eCall (mi := 203) (pc := 66) (len := 3) (j := 194) (as := [.ref 181, .int (1 : Int32), .int (iv M 181 26)]) (rest := []) rfl (Or.inr (Or.inl rfl)) (by decide) rfl rfl h
          have nf : cFact (t P.1.1) = -1 := by rw [← th, ← ey]; exact c6
          obtain ⟨q3, XW, BW, _⟩ := wr_ok (k := 1) (c := (0, b, h0, P)) hR p0 (by omega) (by decide) (by decide) (Rch.go (sF_bad n91 hd nf) Rch.rf) g20
          rw [q3] at h
          obtain ⟨e1, e2⟩ := eRetI (mi := 203) (pc := 69) (len := 1) rfl h
          rw [e2]
          exact ⟨XW, Or.inr ⟨e1, BW⟩⟩
      · replace c2 : digV M = true := mB_eq.2 c2
        replace h := eAload (mi := 203) (pc := 27) (len := 1) (i := 0) rfl l0 h
        obtain ⟨r21, N22, g23, h⟩ := eCall (mi := 203) (pc := 28) (len := 3) (j := 196) (as := [.ref 181]) (rest := []) rfl (Or.inr (Or.inl rfl)) (by decide) rfl rfl h
        have n91 : ¬ t P.1.1 = 91 := fun q => c1 (th.trans q)
        have hd : cDig (t P.1.1) = true := by rw [← th, ← digV_c]; exact c2
        obtain ⟨X3, hq⟩ := numr_ok (b := b) (h0 := h0) hn hR hT p0 pN0 g23
        rcases hq with ⟨k, k5, hall, hf, q1, R3, nv⟩ | ⟨q1, B3⟩
        · rw [q1] at h
          rcases eIf (mi := 203) (pc := 31) (len := 3) (t := 36) rfl rfl h with ⟨c24, h⟩ | ⟨c24, h⟩
          · skip
            replace h := eAload (mi := 203) (pc := 36) (len := 1) (i := 0) rfl l0 h
            replace h := eConst (mi := 203) (pc := 37) (len := 1) (v := 0) rfl h
            replace h := eAload (mi := 203) (pc := 38) (len := 1) (i := 0) rfl l0 h
            replace h := eGetI (a := 181) (j := 1133) R3.1 (by decide) (by decide) rfl (mi := 203) (pc := 39) (len := 3) rfl h
            obtain ⟨r25, N26, g27, h⟩ := eCall (mi := 203) (pc := 42) (len := 3) (j := 197) (as := [.ref 181, .int (0 : Int32), .int (iv N22 181 33)]) (rest := []) rfl (Or.inr (Or.inl rfl)) (by decide) rfl rfl h
            have rg := dgV_5 hall k5
            obtain ⟨q31, R28, X29⟩ := nte_ok (val := dgV t P.1.1 k) R3 (by decide) (by decide) (by rw [nv]; exact rg.1) (by rw [nv]; omega) (by rw [nv]; show 1048576 * 0 + dgV t P.1.1 k = dgV t P.1.1 k; omega) g27
            rw [q31] at h
            have X30 := X3.tr X29
            replace h := eConst (mi := 203) (pc := 45) (len := 1) (v := 1) rfl h
            obtain ⟨e1, e2⟩ := eRetI (mi := 203) (pc := 46) (len := 1) rfl h
            rw [e2]
            have k1 : 1 ≤ k := by
              apply Classical.byContradiction
              intro q
              have q : k = 0 := by omega
              rw [q, show P.1.1 + ((0 : Nat) : Int) = P.1.1 by omega, hd] at hf
              cases hf
            exact ⟨X30, Or.inl ⟨_, e1, Rch.go (sF_num hall k1 k5 hf) Rch.rf, R28⟩⟩
          · exact absurd c24 (by decide)
        · rw [q1] at h
          rcases eIf (mi := 203) (pc := 31) (len := 3) (t := 36) rfl rfl h with ⟨c32, h⟩ | ⟨c32, h⟩
          · exact absurd c32 (by decide)
          · skip
            replace h := eConst (mi := 203) (pc := 34) (len := 1) (v := 0) rfl h
            obtain ⟨e1, e2⟩ := eRetI (mi := 203) (pc := 35) (len := 1) rfl h
            rw [e2]
            exact ⟨X3, Or.inr ⟨e1, B3⟩⟩
    · replace c1 : (hereV M).toInt = 91 := mC_ne.2 c1
      replace h := eAload (mi := 203) (pc := 9) (len := 1) (i := 0) rfl l0 h
      replace h := eConst (mi := 203) (pc := 10) (len := 2) (v := 14) rfl h
      obtain ⟨r33, N34, g35, h⟩ := eCall (mi := 203) (pc := 12) (len := 3) (j := 198) (as := [.ref 181, .int (14 : Int32)]) (rest := []) rfl (Or.inr (Or.inl rfl)) (by decide) rfl rfl h
      have hb : t P.1.1 = 91 := th.symm.trans c1
      rcases opn_ok (val := 14680064) hR p0 (by omega) (by omega) o6 (by decide) (by decide) (by decide) g35 with ⟨q1, q2, q3⟩ | ⟨q1, q2, R3, X3⟩
      · rw [q2] at h
        rcases eIf (mi := 203) (pc := 15) (len := 3) (t := 0) rfl rfl h with ⟨c36, h⟩ | ⟨c36, h⟩
        · exact absurd c36 (by decide)
        · skip
          replace h := eConst (mi := 203) (pc := 18) (len := 1) (v := 0) rfl h
          obtain ⟨e1, e2⟩ := eRetI (mi := 203) (pc := 19) (len := 1) rfl h
          rw [e2]
          have f := wr_fin (k := 5) (c := (0, b, h0, P)) hR p0 (by omega) (by decide) (by decide) (Rch.go (sF_sev hb q1) Rch.rf) q3
          exact ⟨f.1, Or.inr ⟨e1, f.2.1⟩⟩
      · rw [q2] at h
        rcases eIf (mi := 203) (pc := 15) (len := 3) (t := 0) rfl rfl h with ⟨c37, h⟩ | ⟨c37, h⟩
        · skip
          have sx : sm t (0, b, h0, P) = (0, b, h0, pAdv (pOpn (pPush P 14680064) 1)) := sF_opn hb q1
          have hM2 := sm_mi hn hT.tl hM
          rw [sx] at hM2
          exact RK.pre X3 (Rch.go sx Rch.rf) (ih _ _ _ _ _ _ l0 R3 (hT.x X3) hM2 h) (fun P' q => Rch.go sx q)
        · exact absurd c37 (by decide)
theorem has_lp {b : Nat} {M : Mem} {P : PS} (hR : RR M P) (hW : WS P) : ∀ (n d : Nat) (L : MLoc) (kx : Int32) (k : Nat) {r : Option Value} {M1 : Mem}, mLd L 0 = some (.ref 181) → mLd L 2 = some (.int kx) → kx.toInt = (k : Int) → b ≤ k → (∀ j, b ≤ j → j < k → ¬ P.2.2 j / 1048576 = 14) → En n d 204 2 L [] M r M1 → r = some (.int (b2 (pHas P b P.1.2.2.2))) ∧ M1 = M := by
  have wb := hR.2.2.2.2.2.1.2
  intro n
  induction n with
  | zero => intro d L kx k r M1 _ _ _ _ _ h; exact (En.zero (mi := 204) (pc := 2) (len := 1) rfl h).elim
  | succ n ih =>
    intro d L kx k r M1 l0 l2 ek hb hk h
    replace h := eIloadS (mi := 204) (pc := 2) (len := 1) (i := 2) rfl l2 h
    replace h := eAload (mi := 204) (pc := 3) (len := 1) (i := 0) rfl l0 h
    replace h := eGetI (a := 181) (j := 1131) hR.1 (by decide) (by decide) rfl (mi := 204) (pc := 4) (len := 3) rfl h
    rcases eIc (mi := 204) (pc := 7) (len := 3) (t := 33) rfl rfl h with ⟨c1, h⟩ | ⟨c1, h⟩
    · replace c1 : ¬ kx.toInt < (iv M 181 31).toInt := mC_ge.1 c1
      replace h := eConst (mi := 204) (pc := 33) (len := 1) (v := 0) rfl h
      obtain ⟨e1, e2⟩ := eRetI (mi := 204) (pc := 34) (len := 1) rfl h
      have e3 : pHas P b P.1.2.2.2 = false := pHas_none _ (fun j j1 j2 => hk j j1 (by have q := c1; rw [ek, hR.2.2.2.2.1] at q; omega))
      rw [e3]
      exact ⟨e1, e2⟩
    · replace c1 : kx.toInt < (iv M 181 31).toInt := mC_ge.2 c1
      have lt : k < P.1.2.2.2 := by have q := c1; rw [ek, hR.2.2.2.2.1] at q; omega
      have ekn : kx.toInt.toNat = k := by omega
      have ew := hR.2.2.2.2.2.2.2 k (by omega)
      have rg := hW.1 k lt
      have ed : (iv M 204 kx.toInt.toNat / (1048576 : Int32)).toInt = P.2.2 k / 1048576 := by rw [ekn, i32_div (by omega) (by decide), ew]; rfl
      replace h := eAload (mi := 204) (pc := 10) (len := 1) (i := 0) rfl l0 h
      replace h := eGetR (a := 181) (j := 1135) (g := 204) hR.1 (by decide) (by decide) rfl rfl rfl (mi := 204) (pc := 11) (len := 3) rfl h
      replace h := eIload (mi := 204) (pc := 14) (len := 1) (i := 2) rfl l2 h
      obtain ⟨b2, h⟩ := eIald (x := kx) hR.1 (a := 204) (by decide) (by decide) rfl (mi := 204) (pc := 15) (len := 1) rfl h
      replace h := eConst (mi := 204) (pc := 16) (len := 3) (v := 1048576) rfl h
      replace h := eDiv (mi := 204) (pc := 19) (len := 1) rfl (by decide) h
      replace h := eConst (mi := 204) (pc := 20) (len := 2) (v := 14) rfl h
      rcases eIc (mi := 204) (pc := 22) (len := 3) (t := 27) rfl rfl h with ⟨c3, h⟩ | ⟨c3, h⟩
      · replace c3 : ¬ ((iv M 204 kx.toInt.toNat) / (1048576 : Int32)).toInt = 14 := mC_ne.1 c3
        replace h := eIinc (mi := 204) (pc := 27) (len := 3) (i := 2) (k := 1) rfl l2 (by decide) h
        replace h := eGoto (mi := 204) (pc := 30) (len := 3) (t := 2) rfl rfl h
        refine ih _ _ _ (k + 1) (mLd_st1_ref (by decide) l0) mLd_st1_i (by show (kx + (1 : Int32)).toInt = ((k + 1 : Nat) : Int); rw [ic1 ek (by omega) (by omega)]; rfl) (by omega) (fun j j1 j2 => ?_) h
        by_cases q : j = k
        · subst q
          rw [← ed]
          exact c3
        · exact hk j j1 (by omega)
      · replace c3 : ((iv M 204 kx.toInt.toNat) / (1048576 : Int32)).toInt = 14 := mC_ne.2 c3
        replace h := eConst (mi := 204) (pc := 25) (len := 1) (v := 1) rfl h
        obtain ⟨e1, e2⟩ := eRetI (mi := 204) (pc := 26) (len := 1) rfl h
        have lt : k < P.1.2.2.2 := by have q := c1; rw [ek, hR.2.2.2.2.1] at q; omega
        have e14 : P.2.2 k / 1048576 = 14 := by rw [← ed]; exact c3
        have e3 : pHas P b P.1.2.2.2 = true := pHas_at (w := 0) _ k lt hb e14
        rw [e3]
        exact ⟨e1, e2⟩
theorem has_ok {b : Nat} {x : Int32} {n d : Nat} {M : Mem} {P : PS} {r : Option Value} {M1 : Mem} (hR : RR M P) (hW : WS P) (ex : x.toInt = (b : Int)) (h : En n d 204 0 (lv_args 0 [.ref 181, .int x]) [] M r M1) : r = some (.int (b2 (pHas P b P.1.2.2.2))) ∧ M1 = M := by
  replace h := eIload (mi := 204) (pc := 0) (len := 1) (i := 1) rfl rfl h
  replace h := eIstore (mi := 204) (pc := 1) (len := 1) (i := 2) rfl (by decide) h
  exact has_lp hR hW _ _ _ x b rfl rfl ex (Nat.le_refl b) (fun j j1 j2 => absurd j1 (Nat.not_le_of_lt j2)) h
theorem rsum_lp {t : Int → Int} {N h0 : Int} {b : Nat} {bx : Int32} {P0 : PS} (hn : N ≤ 160) (eb : bx.toInt = (b : Int)) : ∀ (n d : Nat) (L : MLoc) (M : Mem) (r : Option Value) (M1 : Mem) (P : PS), mLd L 0 = some (.ref 181) → mLd L 1 = some (.int bx) → RR M P → RT M t N → MI N (1, b, h0, P) → Rch t (0, b, h0, P0) (1, b, h0, P) → En n d 205 14 L [] M r M1 → RK t (0, b, h0, P0) (fun P' => Rch t (0, b, h0, P0) (1, b, h0, P') ∧ cSum (t P'.1.1) = -1 ∧ ¬ (2 ≤ pTop P' ∧ pTop P' ≤ 6) ∧ pHas P' b P'.1.2.2.2 = false) M r M1 := by
  intro n
  induction n with
  | zero => intro d L M r M1 P _ _ _ _ _ _ h; exact (En.zero (mi := 205) (pc := 14) (len := 1) rfl h).elim
  | succ n ih =>
    intro d L M r M1 P l0 l1 hR hT hM hr h
    obtain ⟨p0, pN0, o6, ow, hW⟩ := hM.f
    have wb := hR.2.2.2.2.2.1
    have th : (hereV M).toInt = t P.1.1 := here_t hR hT p0
    replace h := eAloadS (mi := 205) (pc := 14) (len := 1) (i := 0) rfl l0 h
    replace h := eCallP (mi := 205) (pc := 15) (len := 3) (j := 192) (as := [.ref 181]) (rest := []) rfl (Or.inr (Or.inl rfl)) (by decide) rfl rfl (fun _ _ _ _ g => hereV_en hR.1 g) h
    replace h := eCallP (mi := 205) (pc := 18) (len := 3) (j := 201) (as := [.int (hereV M)]) (rest := []) rfl (Or.inl rfl) (by decide) rfl rfl (fun _ _ _ _ g => sgnV_en hR.1 g) h
    replace h := eIstore (mi := 205) (pc := 21) (len := 1) (i := 2) rfl (by decide) h
    replace h := eIload (mi := 205) (pc := 22) (len := 1) (i := 2) rfl mLd_st1_i h
    replace h := eConst (mi := 205) (pc := 23) (len := 1) (v := (-1)) rfl h
    rcases eIc (mi := 205) (pc := 24) (len := 3) (t := 84) rfl rfl h with ⟨c1, h⟩ | ⟨c1, h⟩
    · replace c1 : (sgnV (hereV M)).toInt = (-1) := mC_eq.1 c1
      have s1 : cSum (t P.1.1) = -1 := by have q := c1; rw [sgnV_t, th] at q; exact q
      replace h := eAload (mi := 205) (pc := 84) (len := 1) (i := 0) rfl (mLd_st1_ref (by decide) l0) h
      replace h := eCallP (mi := 205) (pc := 85) (len := 3) (j := 192) (as := [.ref 181]) (rest := []) rfl (Or.inr (Or.inl rfl)) (by decide) rfl rfl (fun _ _ _ _ g => hereV_en hR.1 g) h
      replace h := eConst (mi := 205) (pc := 88) (len := 2) (v := 93) rfl h
      rcases eIc (mi := 205) (pc := 90) (len := 3) (t := 139) rfl rfl h with ⟨c2, h⟩ | ⟨c2, h⟩
      · replace c2 : ¬ (hereV M).toInt = 93 := mC_ne.1 c2
        replace h := eAload (mi := 205) (pc := 139) (len := 1) (i := 0) rfl (mLd_st1_ref (by decide) l0) h
        replace h := eIload (mi := 205) (pc := 140) (len := 1) (i := 1) rfl (mLd_st1_int (by decide) l1) h
        obtain ⟨r3, N4, g5, h⟩ := eCall (mi := 205) (pc := 141) (len := 3) (j := 204) (as := [.ref 181, .int bx]) (rest := []) rfl (Or.inr (Or.inl rfl)) (by decide) rfl rfl h
        obtain ⟨q6, q7⟩ := has_ok (b := b) hR hW eb g5
        rw [q6, q7] at h
        rcases eIf (mi := 205) (pc := 144) (len := 3) (t := 157) rfl rfl h with ⟨c8, h⟩ | ⟨c8, h⟩
        · replace c8 : (pHas P b P.1.2.2.2) = false := mB_eq.1 c8
          replace h := eAload (mi := 205) (pc := 157) (len := 1) (i := 0) rfl (mLd_st1_ref (by decide) l0) h
          replace h := eConst (mi := 205) (pc := 158) (len := 1) (v := 1) rfl h
          obtain ⟨r9, N10, g11, h⟩ := eCall (mi := 205) (pc := 159) (len := 3) (j := 202) (as := [.ref 181, .int (1 : Int32)]) (rest := []) rfl (Or.inr (Or.inl rfl)) (by decide) rfl rfl h
          have hx4 : cSum (t P.1.1) < 4 := by rw [s1]; decide
          obtain ⟨q1, X2, P2, kl, R2⟩ := clo_ok hn hR hT hM (Or.inr hx4) (Or.inl (by decide)) g11
          rw [q1] at h
          have hM2 := kl.1.mi hn hT.tl hM
          obtain ⟨p02, pN2, o62, ow2, hW2⟩ := hM2.f
          have wb2 := R2.2.2.2.2.2.1
          replace h := eConst (mi := 205) (pc := 162) (len := 1) (v := 1) rfl h
          obtain ⟨e1, e2⟩ := eRetI (mi := 205) (pc := 163) (len := 1) rfl h
          rw [e2]
          exact ⟨X2, Or.inl ⟨P2, e1, ⟨hr.tr kl.1, by rw [kl.2.1]; exact s1, by have := kl.2.2.1; have := kl.2.2.2.1; rw [kl.2.1] at this; omega, kl.2.2.2.2.trans c8⟩, R2⟩⟩
        · replace c8 : (pHas P b P.1.2.2.2) = true := mB_eq.2 c8
          replace h := eAload (mi := 205) (pc := 147) (len := 1) (i := 0) rfl (mLd_st1_ref (by decide) l0) h
          replace h := eConst (mi := 205) (pc := 148) (len := 1) (v := 1) rfl h
          replace h := eAload (mi := 205) (pc := 149) (len := 1) (i := 0) rfl (mLd_st1_ref (by decide) l0) h
          replace h := eGetI (a := 181) (j := 1126) hR.1 (by decide) (by decide) rfl (mi := 205) (pc := 150) (len := 3) rfl h
          obtain ⟨r12, N13, g14, h⟩ := eCall (mi := 205) (pc := 153) (len := 3) (j := 194) (as := [.ref 181, .int (1 : Int32), .int (iv M 181 26)]) (rest := []) rfl (Or.inr (Or.inl rfl)) (by decide) rfl rfl h
          have hh : pHas P b P.1.2.2.2 = true := c8
          have n93 : ¬ t P.1.1 = 93 := fun q => c2 (th.trans q)
          obtain ⟨P2, kl⟩ := clo_ex (t := t) (b := b) (h0 := h0) _ P rfl
          have sx : sm t (1, b, h0, P2) = cBad 1 P2 := sA_bad (by have := kl.2.2.1; have := kl.2.2.2.1; rw [kl.2.1] at this; omega) (by rw [kl.2.1]; exact s1) (kl.2.2.2.2.trans hh) (by rw [kl.2.1]; exact n93)
          have eP : cBad 1 P2 = (8, 0, -1000 * 1 - P.1.1, P2) := by show (8, 0, -1000 * 1 - P2.1.1, P2) = _; rw [kl.2.1]
          obtain ⟨q1, q2⟩ := wr_en hR.1 g14
          rw [q1] at h
          obtain ⟨XW, ⟨SW, c9, w1, w2, w3⟩, _⟩ := wr_fin (k := 1) (c := cBad 1 P) (t := t) hR p0 (by omega) (by decide) (by decide) Rch.rf q2
          have e9 := Rch.one w1 Rch.rf (by omega) (show 7 ≤ (cBad 1 P).1 from (by decide : 7 ≤ 8))
          have v9 : -1000 * 1 - P.1.1 = (iv N13 181 28).toInt := by rw [← w3, e9]; rfl
          obtain ⟨e1, e2⟩ := eRetI (mi := 205) (pc := 156) (len := 1) rfl h
          rw [e2]
          exact ⟨XW, Or.inr ⟨e1, SW, _, (hr.tr kl.1).tr (Rch.go (sx.trans eP) Rch.rf), rfl, v9⟩⟩
      · replace c2 : (hereV M).toInt = 93 := mC_ne.2 c2
        replace h := eAload (mi := 205) (pc := 93) (len := 1) (i := 0) rfl (mLd_st1_ref (by decide) l0) h
        replace h := eIload (mi := 205) (pc := 94) (len := 1) (i := 1) rfl (mLd_st1_int (by decide) l1) h
        obtain ⟨r15, N16, g17, h⟩ := eCall (mi := 205) (pc := 95) (len := 3) (j := 204) (as := [.ref 181, .int bx]) (rest := []) rfl (Or.inr (Or.inl rfl)) (by decide) rfl rfl h
        obtain ⟨q18, q19⟩ := has_ok (b := b) hR hW eb g17
        rw [q18, q19] at h
        rcases eIf (mi := 205) (pc := 98) (len := 3) (t := 139) rfl rfl h with ⟨c20, h⟩ | ⟨c20, h⟩
        · replace c20 : (pHas P b P.1.2.2.2) = false := mB_eq.1 c20
          replace h := eAload (mi := 205) (pc := 139) (len := 1) (i := 0) rfl (mLd_st1_ref (by decide) l0) h
          replace h := eIload (mi := 205) (pc := 140) (len := 1) (i := 1) rfl (mLd_st1_int (by decide) l1) h
          obtain ⟨r21, N22, g23, h⟩ := eCall (mi := 205) (pc := 141) (len := 3) (j := 204) (as := [.ref 181, .int bx]) (rest := []) rfl (Or.inr (Or.inl rfl)) (by decide) rfl rfl h
          obtain ⟨q24, q25⟩ := has_ok (b := b) hR hW eb g23
          rw [q24, q25] at h
          rcases eIf (mi := 205) (pc := 144) (len := 3) (t := 157) rfl rfl h with ⟨c26, h⟩ | ⟨c26, h⟩
          · replace c26 : (pHas P b P.1.2.2.2) = false := mB_eq.1 c26
            replace h := eAload (mi := 205) (pc := 157) (len := 1) (i := 0) rfl (mLd_st1_ref (by decide) l0) h
            replace h := eConst (mi := 205) (pc := 158) (len := 1) (v := 1) rfl h
            obtain ⟨r27, N28, g29, h⟩ := eCall (mi := 205) (pc := 159) (len := 3) (j := 202) (as := [.ref 181, .int (1 : Int32)]) (rest := []) rfl (Or.inr (Or.inl rfl)) (by decide) rfl rfl h
            have hx4 : cSum (t P.1.1) < 4 := by rw [s1]; decide
            obtain ⟨q1, X2, P2, kl, R2⟩ := clo_ok hn hR hT hM (Or.inr hx4) (Or.inl (by decide)) g29
            rw [q1] at h
            have hM2 := kl.1.mi hn hT.tl hM
            obtain ⟨p02, pN2, o62, ow2, hW2⟩ := hM2.f
            have wb2 := R2.2.2.2.2.2.1
            replace h := eConst (mi := 205) (pc := 162) (len := 1) (v := 1) rfl h
            obtain ⟨e1, e2⟩ := eRetI (mi := 205) (pc := 163) (len := 1) rfl h
            rw [e2]
            exact ⟨X2, Or.inl ⟨P2, e1, ⟨hr.tr kl.1, by rw [kl.2.1]; exact s1, by have := kl.2.2.1; have := kl.2.2.2.1; rw [kl.2.1] at this; omega, kl.2.2.2.2.trans c26⟩, R2⟩⟩
          · replace c26 : (pHas P b P.1.2.2.2) = true := mB_eq.2 c26
            replace h := eAload (mi := 205) (pc := 147) (len := 1) (i := 0) rfl (mLd_st1_ref (by decide) l0) h
            replace h := eConst (mi := 205) (pc := 148) (len := 1) (v := 1) rfl h
            replace h := eAload (mi := 205) (pc := 149) (len := 1) (i := 0) rfl (mLd_st1_ref (by decide) l0) h
            replace h := eGetI (a := 181) (j := 1126) hR.1 (by decide) (by decide) rfl (mi := 205) (pc := 150) (len := 3) rfl h
            obtain ⟨r30, N31, g32, h⟩ := eCall (mi := 205) (pc := 153) (len := 3) (j := 194) (as := [.ref 181, .int (1 : Int32), .int (iv M 181 26)]) (rest := []) rfl (Or.inr (Or.inl rfl)) (by decide) rfl rfl h
            have hh : pHas P b P.1.2.2.2 = true := c26
            exact absurd (hh.symm.trans c20) (by decide)
        · replace c20 : (pHas P b P.1.2.2.2) = true := mB_eq.2 c20
          have t93 : t P.1.1 = 93 := th.symm.trans c2
          have hh : pHas P b P.1.2.2.2 = true := c20
          replace h := eAload (mi := 205) (pc := 101) (len := 1) (i := 0) rfl (mLd_st1_ref (by decide) l0) h
          replace h := eConst (mi := 205) (pc := 102) (len := 1) (v := 1) rfl h
          obtain ⟨r33, N34, g35, h⟩ := eCall (mi := 205) (pc := 103) (len := 3) (j := 202) (as := [.ref 181, .int (1 : Int32)]) (rest := []) rfl (Or.inr (Or.inl rfl)) (by decide) rfl rfl h
          have hx4 : cSum (t P.1.1) < 4 := by rw [s1]; decide
          obtain ⟨q1, X2, P2, kl, R2⟩ := clo_ok hn hR hT hM (Or.inr hx4) (Or.inl (by decide)) g35
          rw [q1] at h
          have hM2 := kl.1.mi hn hT.tl hM
          obtain ⟨p02, pN2, o62, ow2, hW2⟩ := hM2.f
          have wb2 := R2.2.2.2.2.2.1
          replace h := eAload (mi := 205) (pc := 106) (len := 1) (i := 0) rfl (mLd_st1_ref (by decide) l0) h
          replace h := eAload (mi := 205) (pc := 107) (len := 1) (i := 0) rfl (mLd_st1_ref (by decide) l0) h
          replace h := eGetI (a := 181) (j := 1131) R2.1 (by decide) (by decide) rfl (mi := 205) (pc := 108) (len := 3) rfl h
          replace h := eConst (mi := 205) (pc := 111) (len := 1) (v := 1) rfl h
          replace h := eSub (mi := 205) (pc := 112) (len := 1) rfl h
          obtain ⟨N36, eN36⟩ : ∃ X_, X_ = mPut N34 181 31 (.int ((iv N34 181 31) - (1 : Int32))) := ⟨_, rfl⟩
          replace h := ePutE (a := 181) (f := 31) (N := N36) rfl eN36 (mi := 205) (pc := 113) (len := 3) (j := 1131) rfl h
          have hS37 : Sh N36 := by rw [eN36]; exact R2.1.put (by decide) (by decide) rfl
          obtain ⟨k9, k91, k92, _⟩ := pHas_ex _ (kl.2.2.2.2.trans hh)
          have R38 : RR N36 (pPop P2) := by rw [eN36]; exact R2.p31 (w := P2.1.2.2.2 - 1) (by have q := dc1 R2.2.2.2.2.1 (by show -1000 ≤ (P2.1.2.2.2 : Int); omega) (by show (P2.1.2.2.2 : Int) ≤ 1000; omega); rw [q]; show (P2.1.2.2.2 : Int) - 1 = ((P2.1.2.2.2 - 1 : Nat) : Int); omega) (by omega)
          have X39 : RX M N36 := X2.tr (by rw [eN36]; exact RX.put (Or.inl ⟨rfl, by decide⟩))
          replace h := eAload (mi := 205) (pc := 116) (len := 1) (i := 0) rfl (mLd_st1_ref (by decide) l0) h
          replace h := eAload (mi := 205) (pc := 117) (len := 1) (i := 0) rfl (mLd_st1_ref (by decide) l0) h
          replace h := eGetI (a := 181) (j := 1129) R38.1 (by decide) (by decide) rfl (mi := 205) (pc := 118) (len := 3) rfl h
          replace h := eConst (mi := 205) (pc := 121) (len := 1) (v := 1) rfl h
          replace h := eSub (mi := 205) (pc := 122) (len := 1) rfl h
          obtain ⟨N40, eN40⟩ : ∃ X_, X_ = mPut N36 181 29 (.int ((iv N36 181 29) - (1 : Int32))) := ⟨_, rfl⟩
          replace h := ePutE (a := 181) (f := 29) (N := N40) rfl eN40 (mi := 205) (pc := 123) (len := 3) (j := 1129) rfl h
          have hS41 : Sh N40 := by rw [eN40]; exact R38.1.put (by decide) (by decide) rfl
          have R42 : RR N40 (pOpn (pPop P2) (-1)) := by rw [eN40]; exact R38.p29 (o := P2.1.2.1 + -1) (by have q := dc1 R38.2.2.1 (by show -1000 ≤ P2.1.2.1; omega) (by show P2.1.2.1 ≤ 1000; omega); rw [q]; rfl)
          have X43 : RX M N40 := X39.tr (by rw [eN40]; exact RX.put (Or.inl ⟨rfl, by decide⟩))
          replace h := eAload (mi := 205) (pc := 126) (len := 1) (i := 0) rfl (mLd_st1_ref (by decide) l0) h
          replace h := eAload (mi := 205) (pc := 127) (len := 1) (i := 0) rfl (mLd_st1_ref (by decide) l0) h
          replace h := eGetI (a := 181) (j := 1126) R42.1 (by decide) (by decide) rfl (mi := 205) (pc := 128) (len := 3) rfl h
          replace h := eConst (mi := 205) (pc := 131) (len := 1) (v := 1) rfl h
          replace h := eAdd (mi := 205) (pc := 132) (len := 1) rfl h
          obtain ⟨N44, eN44⟩ : ∃ X_, X_ = mPut N40 181 26 (.int ((iv N40 181 26) + (1 : Int32))) := ⟨_, rfl⟩
          replace h := ePutE (a := 181) (f := 26) (N := N44) rfl eN44 (mi := 205) (pc := 133) (len := 3) (j := 1126) rfl h
          have hS45 : Sh N44 := by rw [eN44]; exact R42.1.put (by decide) (by decide) rfl
          have R46 : RR N44 (pAdv (pOpn (pPop P2) (-1))) := by rw [eN44]; exact R42.p26 (p := P2.1.1 + 1) (ic1 R42.2.1 (by show -1000 ≤ P2.1.1; omega) (by show P2.1.1 ≤ 1000; omega))
          have X47 : RX M N44 := X43.tr (by rw [eN44]; exact RX.put (Or.inl ⟨rfl, by decide⟩))
          replace h := eGoto (mi := 205) (pc := 136) (len := 3) (t := 164) rfl rfl h
          replace h := eGoto (mi := 205) (pc := 164) (len := 3) (t := 14) rfl rfl h
          have sx : sm t (1, b, h0, P2) = (1, b, h0, (pAdv (pOpn (pPop P2) (-1)))) := sA_shut (by have := kl.2.2.1; have := kl.2.2.2.1; rw [kl.2.1] at this; omega) (by rw [kl.2.1]; exact s1) (kl.2.2.2.2.trans hh) (by rw [kl.2.1]; exact t93)
          have hM3 := sm_mi hn hT.tl hM2
          rw [sx] at hM3
          exact RK.pre X47 Rch.rf (ih _ _ _ _ _ (pAdv (pOpn (pPop P2) (-1))) (mLd_st1_ref (by decide) l0) (mLd_st1_int (by decide) l1) R46 (hT.x X47) hM3 ((hr.tr kl.1).tr (Rch.go sx Rch.rf)) h) (fun _ q => q)
    · replace c1 : ¬ (sgnV (hereV M)).toInt = (-1) := mC_eq.2 c1
      replace h := eAload (mi := 205) (pc := 27) (len := 1) (i := 0) rfl (mLd_st1_ref (by decide) l0) h
      replace h := eIload (mi := 205) (pc := 28) (len := 1) (i := 2) rfl mLd_st1_i h
      replace h := eConst (mi := 205) (pc := 29) (len := 1) (v := 4) rfl h
      rcases eIc (mi := 205) (pc := 30) (len := 3) (t := 37) rfl rfl h with ⟨c48, h⟩ | ⟨c48, h⟩
      · replace c48 : ¬ (sgnV (hereV M)).toInt < 4 := mC_ge.1 c48
        replace h := eConst (mi := 205) (pc := 37) (len := 1) (v := 0) rfl h
        obtain ⟨r49, N50, g51, h⟩ := eCall (mi := 205) (pc := 38) (len := 3) (j := 202) (as := [.ref 181, .int (0 : Int32)]) (rest := []) rfl (Or.inr (Or.inl rfl)) (by decide) rfl rfl h
        have hx4 : ¬ cSum (t P.1.1) < 4 := by have q := c48; rw [sgnV_t, th] at q; exact q
        obtain ⟨q1, X2, P2, kl, R2⟩ := clo_ok hn hR hT hM (Or.inl rfl) (Or.inr hx4) g51
        rw [q1] at h
        have hM2 := kl.1.mi hn hT.tl hM
        obtain ⟨p02, pN2, o62, ow2, hW2⟩ := hM2.f
        have wb2 := R2.2.2.2.2.2.1
        replace h := eAload (mi := 205) (pc := 41) (len := 1) (i := 0) rfl (mLd_st1_ref (by decide) l0) h
        replace h := eGetR (a := 181) (j := 1135) (g := 204) R2.1 (by decide) (by decide) rfl rfl rfl (mi := 205) (pc := 42) (len := 3) rfl h
        replace h := eAload (mi := 205) (pc := 45) (len := 1) (i := 0) rfl (mLd_st1_ref (by decide) l0) h
        replace h := eGetI (a := 181) (j := 1131) R2.1 (by decide) (by decide) rfl (mi := 205) (pc := 46) (len := 3) rfl h
        replace h := eConst (mi := 205) (pc := 49) (len := 3) (v := 1048576) rfl h
        replace h := eIload (mi := 205) (pc := 52) (len := 1) (i := 2) rfl mLd_st1_i h
        replace h := eMul (mi := 205) (pc := 53) (len := 1) rfl h
        obtain ⟨N53, eN53⟩ : ∃ X_, X_ = mPut N50 204 (iv N50 181 31).toInt.toNat (.int ((1048576 : Int32) * (sgnV (hereV M)))) := ⟨_, rfl⟩
        obtain ⟨b52, h⟩ := eIast (x := (iv N50 181 31)) (N := N53) R2.1 (a := 204) (by decide) (by decide) eN53 (mi := 205) (pc := 54) (len := 1) rfl h
        have hS54 : Sh N53 := by rw [eN53]; exact R2.1.put (by decide) (by decide) rfl
        have ew : (iv N50 181 31).toInt.toNat = P2.1.2.2.2 := by rw [R2.2.2.2.2.1]; rfl
        have k9 : P2.1.2.2.2 < 180 := by have q := b52.2; rw [ew] at q; exact q
        have cs9 : cSum (t P.1.1) = -1 ∨ (2 ≤ cSum (t P.1.1) ∧ cSum (t P.1.1) ≤ 6 ∧ ¬ t P.1.1 = -1) := cSum_rg
        have cs8 : ¬ cSum (t P.1.1) = -1 := fun q => c1 (by rw [sgnV_t, th]; exact q)
        have sv : (sgnV (hereV M)).toInt = cSum (t P2.1.1) := by rw [sgnV_t, th, kl.2.1]
        have wv : ((1048576 : Int32) * (sgnV (hereV M))).toInt = cSum (t P2.1.1) * 1048576 := by rw [kl.2.1] at sv ⊢; have q := i32_mul (x := 1048576) (y := sgnV (hereV M)) (by show -2147483648 ≤ 1048576 * (sgnV (hereV M)).toInt; omega) (by show 1048576 * (sgnV (hereV M)).toInt ≤ 2147483647; omega); have q : ((1048576 : Int32) * (sgnV (hereV M))).toInt = 1048576 * (sgnV (hereV M)).toInt := q; omega
        have R55 : RR N53 (P2.1, P2.2.1, pUp P2.2.2 P2.1.2.2.2 (cSum (t P2.1.1) * 1048576)) := by rw [eN53, ew]; exact R2.p204 (j := P2.1.2.2.2) wv
        have X56 : RX M N53 := X2.tr (by rw [eN53]; exact RX.put (Or.inr (Or.inr rfl)))
        replace h := eAload (mi := 205) (pc := 55) (len := 1) (i := 0) rfl (mLd_st1_ref (by decide) l0) h
        replace h := eAload (mi := 205) (pc := 56) (len := 1) (i := 0) rfl (mLd_st1_ref (by decide) l0) h
        replace h := eGetI (a := 181) (j := 1131) R55.1 (by decide) (by decide) rfl (mi := 205) (pc := 57) (len := 3) rfl h
        replace h := eConst (mi := 205) (pc := 60) (len := 1) (v := 1) rfl h
        replace h := eAdd (mi := 205) (pc := 61) (len := 1) rfl h
        obtain ⟨N57, eN57⟩ : ∃ X_, X_ = mPut N53 181 31 (.int ((iv N53 181 31) + (1 : Int32))) := ⟨_, rfl⟩
        replace h := ePutE (a := 181) (f := 31) (N := N57) rfl eN57 (mi := 205) (pc := 62) (len := 3) (j := 1131) rfl h
        have hS58 : Sh N57 := by rw [eN57]; exact R55.1.put (by decide) (by decide) rfl
        have R59 : RR N57 (pPush P2 (cSum (t P2.1.1) * 1048576)) := by rw [eN57]; exact R55.p31 (w := P2.1.2.2.2 + 1) (by have q := ic1 R55.2.2.2.2.1 (by show -1000 ≤ (P2.1.2.2.2 : Int); omega) (by show (P2.1.2.2.2 : Int) ≤ 1000; omega); rw [q]; rfl) (by omega)
        have X60 : RX M N57 := X56.tr (by rw [eN57]; exact RX.put (Or.inl ⟨rfl, by decide⟩))
        replace h := eAload (mi := 205) (pc := 65) (len := 1) (i := 0) rfl (mLd_st1_ref (by decide) l0) h
        replace h := eAload (mi := 205) (pc := 66) (len := 1) (i := 0) rfl (mLd_st1_ref (by decide) l0) h
        replace h := eGetI (a := 181) (j := 1126) R59.1 (by decide) (by decide) rfl (mi := 205) (pc := 67) (len := 3) rfl h
        replace h := eConst (mi := 205) (pc := 70) (len := 1) (v := 1) rfl h
        replace h := eAdd (mi := 205) (pc := 71) (len := 1) rfl h
        obtain ⟨N61, eN61⟩ : ∃ X_, X_ = mPut N57 181 26 (.int ((iv N57 181 26) + (1 : Int32))) := ⟨_, rfl⟩
        replace h := ePutE (a := 181) (f := 26) (N := N61) rfl eN61 (mi := 205) (pc := 72) (len := 3) (j := 1126) rfl h
        have hS62 : Sh N61 := by rw [eN61]; exact R59.1.put (by decide) (by decide) rfl
        have R63 : RR N61 (pAdv (pPush P2 (cSum (t P2.1.1) * 1048576))) := by rw [eN61]; exact R59.p26 (p := P2.1.1 + 1) (ic1 R59.2.1 (by show -1000 ≤ P2.1.1; omega) (by show P2.1.1 ≤ 1000; omega))
        have X64 : RX M N61 := X60.tr (by rw [eN61]; exact RX.put (Or.inl ⟨rfl, by decide⟩))
        replace h := eAload (mi := 205) (pc := 75) (len := 1) (i := 0) rfl (mLd_st1_ref (by decide) l0) h
        obtain ⟨r65, N66, g67, h⟩ := eCall (mi := 205) (pc := 76) (len := 3) (j := 203) (as := [.ref 181]) (rest := []) rfl (Or.inr (Or.inl rfl)) (by decide) rfl rfl h
        have sx : sm t (1, b, h0, P2) = (0, b, h0, (pAdv (pPush P2 (cSum (t P2.1.1) * 1048576)))) := sA_push kl.2.2.1 (by have := kl.2.2.2.1; rw [kl.2.1] at this ⊢; omega)
        have hM3 := sm_mi hn hT.tl hM2
        rw [sx] at hM3
        obtain ⟨XF, hF⟩ := rfac_lp hn _ _ _ _ _ _ _ rfl R63 (hT.x X64) hM3 g67
        have hr3 := (hr.tr kl.1).tr (Rch.go sx Rch.rf)
        rcases hF with ⟨P4, q4, hg4, R4⟩ | ⟨q4, B4⟩
        · rw [q4] at h
          rcases eIf (mi := 205) (pc := 79) (len := 3) (t := 164) rfl rfl h with ⟨c68, h⟩ | ⟨c68, h⟩
          · skip
            replace h := eGoto (mi := 205) (pc := 164) (len := 3) (t := 14) rfl rfl h
            have hr4 := hr3.tr hg4
            have hM4 := hg4.mi hn hT.tl hM3
            exact RK.pre (X64.tr XF) Rch.rf (ih _ _ _ _ _ P4 (mLd_st1_ref (by decide) l0) (mLd_st1_int (by decide) l1) R4 (hT.x (X64.tr XF)) hM4 hr4 h) (fun _ q => q)
          · exact absurd c68 (by decide)
        · rw [q4] at h
          rcases eIf (mi := 205) (pc := 79) (len := 3) (t := 164) rfl rfl h with ⟨c69, h⟩ | ⟨c69, h⟩
          · exact absurd c69 (by decide)
          · skip
            replace h := eConst (mi := 205) (pc := 82) (len := 1) (v := 0) rfl h
            obtain ⟨e1, e2⟩ := eRetI (mi := 205) (pc := 83) (len := 1) rfl h
            rw [e2]
            exact ⟨X64.tr XF, Or.inr ⟨e1, B4.pre hr3⟩⟩
      · replace c48 : (sgnV (hereV M)).toInt < 4 := mC_ge.2 c48
        replace h := eConst (mi := 205) (pc := 33) (len := 1) (v := 1) rfl h
        replace h := eGoto (mi := 205) (pc := 34) (len := 3) (t := 38) rfl rfl h
        obtain ⟨r70, N71, g72, h⟩ := eCall (mi := 205) (pc := 38) (len := 3) (j := 202) (as := [.ref 181, .int (1 : Int32)]) (rest := []) rfl (Or.inr (Or.inl rfl)) (by decide) rfl rfl h
        have hx4 : cSum (t P.1.1) < 4 := by have q := c48; rw [sgnV_t, th] at q; exact q
        obtain ⟨q1, X2, P2, kl, R2⟩ := clo_ok hn hR hT hM (Or.inr hx4) (Or.inl (by decide)) g72
        rw [q1] at h
        have hM2 := kl.1.mi hn hT.tl hM
        obtain ⟨p02, pN2, o62, ow2, hW2⟩ := hM2.f
        have wb2 := R2.2.2.2.2.2.1
        replace h := eAload (mi := 205) (pc := 41) (len := 1) (i := 0) rfl (mLd_st1_ref (by decide) l0) h
        replace h := eGetR (a := 181) (j := 1135) (g := 204) R2.1 (by decide) (by decide) rfl rfl rfl (mi := 205) (pc := 42) (len := 3) rfl h
        replace h := eAload (mi := 205) (pc := 45) (len := 1) (i := 0) rfl (mLd_st1_ref (by decide) l0) h
        replace h := eGetI (a := 181) (j := 1131) R2.1 (by decide) (by decide) rfl (mi := 205) (pc := 46) (len := 3) rfl h
        replace h := eConst (mi := 205) (pc := 49) (len := 3) (v := 1048576) rfl h
        replace h := eIload (mi := 205) (pc := 52) (len := 1) (i := 2) rfl mLd_st1_i h
        replace h := eMul (mi := 205) (pc := 53) (len := 1) rfl h
        obtain ⟨N74, eN74⟩ : ∃ X_, X_ = mPut N71 204 (iv N71 181 31).toInt.toNat (.int ((1048576 : Int32) * (sgnV (hereV M)))) := ⟨_, rfl⟩
        obtain ⟨b73, h⟩ := eIast (x := (iv N71 181 31)) (N := N74) R2.1 (a := 204) (by decide) (by decide) eN74 (mi := 205) (pc := 54) (len := 1) rfl h
        have hS75 : Sh N74 := by rw [eN74]; exact R2.1.put (by decide) (by decide) rfl
        have ew : (iv N71 181 31).toInt.toNat = P2.1.2.2.2 := by rw [R2.2.2.2.2.1]; rfl
        have k9 : P2.1.2.2.2 < 180 := by have q := b73.2; rw [ew] at q; exact q
        have cs9 : cSum (t P.1.1) = -1 ∨ (2 ≤ cSum (t P.1.1) ∧ cSum (t P.1.1) ≤ 6 ∧ ¬ t P.1.1 = -1) := cSum_rg
        have cs8 : ¬ cSum (t P.1.1) = -1 := fun q => c1 (by rw [sgnV_t, th]; exact q)
        have sv : (sgnV (hereV M)).toInt = cSum (t P2.1.1) := by rw [sgnV_t, th, kl.2.1]
        have wv : ((1048576 : Int32) * (sgnV (hereV M))).toInt = cSum (t P2.1.1) * 1048576 := by rw [kl.2.1] at sv ⊢; have q := i32_mul (x := 1048576) (y := sgnV (hereV M)) (by show -2147483648 ≤ 1048576 * (sgnV (hereV M)).toInt; omega) (by show 1048576 * (sgnV (hereV M)).toInt ≤ 2147483647; omega); have q : ((1048576 : Int32) * (sgnV (hereV M))).toInt = 1048576 * (sgnV (hereV M)).toInt := q; omega
        have R76 : RR N74 (P2.1, P2.2.1, pUp P2.2.2 P2.1.2.2.2 (cSum (t P2.1.1) * 1048576)) := by rw [eN74, ew]; exact R2.p204 (j := P2.1.2.2.2) wv
        have X77 : RX M N74 := X2.tr (by rw [eN74]; exact RX.put (Or.inr (Or.inr rfl)))
        replace h := eAload (mi := 205) (pc := 55) (len := 1) (i := 0) rfl (mLd_st1_ref (by decide) l0) h
        replace h := eAload (mi := 205) (pc := 56) (len := 1) (i := 0) rfl (mLd_st1_ref (by decide) l0) h
        replace h := eGetI (a := 181) (j := 1131) R76.1 (by decide) (by decide) rfl (mi := 205) (pc := 57) (len := 3) rfl h
        replace h := eConst (mi := 205) (pc := 60) (len := 1) (v := 1) rfl h
        replace h := eAdd (mi := 205) (pc := 61) (len := 1) rfl h
        obtain ⟨N78, eN78⟩ : ∃ X_, X_ = mPut N74 181 31 (.int ((iv N74 181 31) + (1 : Int32))) := ⟨_, rfl⟩
        replace h := ePutE (a := 181) (f := 31) (N := N78) rfl eN78 (mi := 205) (pc := 62) (len := 3) (j := 1131) rfl h
        have hS79 : Sh N78 := by rw [eN78]; exact R76.1.put (by decide) (by decide) rfl
        have R80 : RR N78 (pPush P2 (cSum (t P2.1.1) * 1048576)) := by rw [eN78]; exact R76.p31 (w := P2.1.2.2.2 + 1) (by have q := ic1 R76.2.2.2.2.1 (by show -1000 ≤ (P2.1.2.2.2 : Int); omega) (by show (P2.1.2.2.2 : Int) ≤ 1000; omega); rw [q]; rfl) (by omega)
        have X81 : RX M N78 := X77.tr (by rw [eN78]; exact RX.put (Or.inl ⟨rfl, by decide⟩))
        replace h := eAload (mi := 205) (pc := 65) (len := 1) (i := 0) rfl (mLd_st1_ref (by decide) l0) h
        replace h := eAload (mi := 205) (pc := 66) (len := 1) (i := 0) rfl (mLd_st1_ref (by decide) l0) h
        replace h := eGetI (a := 181) (j := 1126) R80.1 (by decide) (by decide) rfl (mi := 205) (pc := 67) (len := 3) rfl h
        replace h := eConst (mi := 205) (pc := 70) (len := 1) (v := 1) rfl h
        replace h := eAdd (mi := 205) (pc := 71) (len := 1) rfl h
        obtain ⟨N82, eN82⟩ : ∃ X_, X_ = mPut N78 181 26 (.int ((iv N78 181 26) + (1 : Int32))) := ⟨_, rfl⟩
        replace h := ePutE (a := 181) (f := 26) (N := N82) rfl eN82 (mi := 205) (pc := 72) (len := 3) (j := 1126) rfl h
        have hS83 : Sh N82 := by rw [eN82]; exact R80.1.put (by decide) (by decide) rfl
        have R84 : RR N82 (pAdv (pPush P2 (cSum (t P2.1.1) * 1048576))) := by rw [eN82]; exact R80.p26 (p := P2.1.1 + 1) (ic1 R80.2.1 (by show -1000 ≤ P2.1.1; omega) (by show P2.1.1 ≤ 1000; omega))
        have X85 : RX M N82 := X81.tr (by rw [eN82]; exact RX.put (Or.inl ⟨rfl, by decide⟩))
        replace h := eAload (mi := 205) (pc := 75) (len := 1) (i := 0) rfl (mLd_st1_ref (by decide) l0) h
        obtain ⟨r86, N87, g88, h⟩ := eCall (mi := 205) (pc := 76) (len := 3) (j := 203) (as := [.ref 181]) (rest := []) rfl (Or.inr (Or.inl rfl)) (by decide) rfl rfl h
        have sx : sm t (1, b, h0, P2) = (0, b, h0, (pAdv (pPush P2 (cSum (t P2.1.1) * 1048576)))) := sA_push kl.2.2.1 (by have := kl.2.2.2.1; rw [kl.2.1] at this ⊢; omega)
        have hM3 := sm_mi hn hT.tl hM2
        rw [sx] at hM3
        obtain ⟨XF, hF⟩ := rfac_lp hn _ _ _ _ _ _ _ rfl R84 (hT.x X85) hM3 g88
        have hr3 := (hr.tr kl.1).tr (Rch.go sx Rch.rf)
        rcases hF with ⟨P4, q4, hg4, R4⟩ | ⟨q4, B4⟩
        · rw [q4] at h
          rcases eIf (mi := 205) (pc := 79) (len := 3) (t := 164) rfl rfl h with ⟨c89, h⟩ | ⟨c89, h⟩
          · skip
            replace h := eGoto (mi := 205) (pc := 164) (len := 3) (t := 14) rfl rfl h
            have hr4 := hr3.tr hg4
            have hM4 := hg4.mi hn hT.tl hM3
            exact RK.pre (X85.tr XF) Rch.rf (ih _ _ _ _ _ P4 (mLd_st1_ref (by decide) l0) (mLd_st1_int (by decide) l1) R4 (hT.x (X85.tr XF)) hM4 hr4 h) (fun _ q => q)
          · exact absurd c89 (by decide)
        · rw [q4] at h
          rcases eIf (mi := 205) (pc := 79) (len := 3) (t := 164) rfl rfl h with ⟨c90, h⟩ | ⟨c90, h⟩
          · exact absurd c90 (by decide)
          · skip
            replace h := eConst (mi := 205) (pc := 82) (len := 1) (v := 0) rfl h
            obtain ⟨e1, e2⟩ := eRetI (mi := 205) (pc := 83) (len := 1) rfl h
            rw [e2]
            exact ⟨X85.tr XF, Or.inr ⟨e1, B4.pre hr3⟩⟩
theorem rsum_ok {t : Int → Int} {N h0 : Int} {b : Nat} {P : PS} (hn : N ≤ 160) {n d : Nat} {M : Mem} {r : Option Value} {M1 : Mem} (hR : RR M P) (hT : RT M t N) (hM : MI N (0, b, h0, P)) (ebw : P.1.2.2.2 = b) (h : En n d 205 0 (lv_args 0 [.ref 181]) [] M r M1) : RK t (0, b, h0, P) (fun P' => Rch t (0, b, h0, P) (1, b, h0, P') ∧ cSum (t P'.1.1) = -1 ∧ ¬ (2 ≤ pTop P' ∧ pTop P' ≤ 6) ∧ pHas P' b P'.1.2.2.2 = false) M r M1 := by
  replace h := eAload (mi := 205) (pc := 0) (len := 1) (i := 0) rfl rfl h
  replace h := eGetI (a := 181) (j := 1131) hR.1 (by decide) (by decide) rfl (mi := 205) (pc := 1) (len := 3) rfl h
  replace h := eIstore (mi := 205) (pc := 4) (len := 1) (i := 1) rfl (by decide) h
  replace h := eAload (mi := 205) (pc := 5) (len := 1) (i := 0) rfl rfl h
  obtain ⟨r1, N2, g3, h⟩ := eCall (mi := 205) (pc := 6) (len := 3) (j := 203) (as := [.ref 181]) (rest := []) rfl (Or.inr (Or.inl rfl)) (by decide) rfl rfl h
  obtain ⟨XF, hF⟩ := rfac_lp hn _ _ _ _ _ _ _ rfl hR hT hM g3
  rcases hF with ⟨P4, q4, hg4, R4⟩ | ⟨q4, B4⟩
  · rw [q4] at h
    rcases eIf (mi := 205) (pc := 9) (len := 3) (t := 14) rfl rfl h with ⟨c4, h⟩ | ⟨c4, h⟩
    · skip
      exact RK.pre XF Rch.rf (rsum_lp hn (hR.2.2.2.2.1.trans (by rw [ebw])) _ _ _ _ _ _ P4 rfl rfl R4 (hT.x XF) (hg4.mi hn hT.tl hM) hg4 h) (fun _ q => q)
    · exact absurd c4 (by decide)
  · rw [q4] at h
    rcases eIf (mi := 205) (pc := 9) (len := 3) (t := 14) rfl rfl h with ⟨c5, h⟩ | ⟨c5, h⟩
    · exact absurd c5 (by decide)
    · skip
      replace h := eConst (mi := 205) (pc := 12) (len := 1) (v := 0) rfl h
      obtain ⟨e1, e2⟩ := eRetI (mi := 205) (pc := 13) (len := 1) rfl h
      rw [e2]
      exact ⟨XF, Or.inr ⟨e1, B4⟩⟩

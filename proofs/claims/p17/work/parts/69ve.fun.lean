/-! the class's reader against the machine: numbers, factors, sums by induction (printed by fn7.py) -/
theorem eLdcS {n d mi pc len j : Nat} {L : MLoc} {st : List Value} {M : Mem} {r : Option Value} {M1 : Mem} (hat : mAt mi pc = some (len, .ldc j)) (h : En n d mi pc L st M r M1) : En n d mi (pc + len) L (.ref 1 :: st) M r M1 := En.pl hat rfl h
theorem eIdx {n d mi pc len : Nat} {L : MLoc} {st : List Value} {M : Mem} {r : Option Value} {M1 : Mem} {x : Int32} (hat : mAt mi pc = some (len, .invokevirtual 902)) (h : En n d mi pc L (.int x :: .ref 1 :: st) M r M1) : En n d mi (pc + len) L (.int (mIxOf x) :: st) M r M1 := by
  obtain ⟨st', M', g1, g2⟩ := ePrimS hat (Or.inr (Or.inl rfl)) (by decide) h
  rw [show mPrim d 902 (.int x :: .ref 1 :: st) M = (if 6 ≤ d ∧ (st.map fun v => v.category).sum ≤ 8 then some (.int (mIxOf x) :: st, M) else none) from rfl] at g1
  obtain ⟨_, g1⟩ := mIf g1
  cases g1
  exact g2
theorem ix_fact {x : Int32} (h0 : 0 ≤ x.toInt) (h1 : x.toInt ≤ 255) : (mIxOf x).toInt < 0 ↔ cFact x.toInt = -1 := by
  have q : ∀ k, k < 256 → ((mIxOf (Int32.ofNat k)).toInt < 0 ↔ cFact (k : Int) = -1) := by decide +kernel
  have e := q x.toInt.toNat (by omega)
  rw [i32_natR h0] at e
  rwa [show ((x.toInt.toNat : Nat) : Int) = x.toInt by omega] at e
theorem fact_enc {c sh : Int} (h0 : -1 ≤ c) (h1 : c ≤ 255) (h : ¬ cFact c = -1) : encC sh (1048576 + cFact c) = 97 * 1048576 + (c - 97) ∧ 97 ≤ c ∧ c ≤ 122 := by
  unfold cFact at h
  have hc : c = 110 ∨ c = 102 ∨ c = 99 ∨ c = 117 ∨ c = 118 ∨ c = 112 ∨ c = 103 ∨ c = 120 ∨ c = 107 ∨ c = 119 ∨ c = 105 ∨ c = 113 ∨ c = 104 ∨ c = 116 := by
    apply Classical.byContradiction
    intro q
    rw [if_neg (by omega), if_neg (by omega), if_neg (by omega), if_neg (by omega), if_neg (by omega), if_neg (by omega), if_neg (by omega), if_neg (by omega), if_neg (by omega), if_neg (by omega), if_neg (by omega), if_neg (by omega), if_neg (by omega), if_neg (by omega)] at h
    exact h rfl
  clear h
  rcases hc with rfl | rfl | rfl | rfl | rfl | rfl | rfl | rfl | rfl | rfl | rfl | rfl | rfl | rfl <;> exact ⟨rfl, by decide, by decide⟩
theorem CR.le {M : Mem} {P : PS} {sh n z z' : Int} (h : CR M P sh n z) (h0 : 0 ≤ z') (h1 : z' ≤ z) : CR M P sh n z' := by
  obtain ⟨a1, a2, a3, a4, a5, a6⟩ := h
  exact ⟨a1, a2, a3, ⟨a4.1, a4.2.1, a4.2.2.1, h0⟩, by omega, a6⟩
theorem cDig_t {c : Int} (h : cDig c = true) : 48 ≤ c ∧ c ≤ 57 := by
  unfold cDig at h
  rw [Bool.and_eq_true] at h
  exact ⟨of_decide_eq_true h.1, of_decide_eq_true h.2⟩
theorem cDig_f {c : Int} (h : ¬ (48 ≤ c ∧ c ≤ 57)) : cDig c = false := by
  cases q : cDig c with
  | false => rfl
  | true => exact absurd (cDig_t q) h
theorem bDig_c {x : Int32} : bDig x = cDig x.toInt := by
  unfold bDig
  by_cases h1 : x.toInt < 48
  · rw [decide_eq_true h1, cDig_f (by omega)]
    rfl
  · rw [decide_eq_false h1]
    by_cases h2 : 57 < x.toInt
    · rw [decide_eq_true h2, cDig_f (by omega)]
      rfl
    · rw [decide_eq_false h2]
      unfold cDig
      rw [decide_eq_true (show 48 ≤ x.toInt by omega), decide_eq_true (show x.toInt ≤ 57 by omega)]
      rfl
theorem dgN_eq {t : Int → Int} : ∀ (m k : Nat) (p : Int), k ≤ m → (∀ i : Nat, i < k → cDig (t (p + i)) = true) → (k = m ∨ cDig (t (p + k)) = false) → dgN t p m = k
  | 0, k, p, hk, _, _ => by
    show 0 = k
    omega
  | m + 1, 0, p, _, _, hf => by
    have hf : cDig (t p) = false := by
      rcases hf with hf | hf
      · omega
      · rwa [show p + ((0 : Nat) : Int) = p by omega] at hf
    show (if cDig (t p) = true then dgN t (p + 1) m + 1 else 0) = 0
    rw [hf]
    rfl
  | m + 1, k + 1, p, hk, hd, hf => by
    have h0 := hd 0 (by omega)
    rw [show p + ((0 : Nat) : Int) = p by omega] at h0
    have ih := dgN_eq (t := t) m k (p + 1) (by omega) (fun i hi => by
      have := hd (i + 1) (by omega)
      rwa [show p + ((i + 1 : Nat) : Int) = p + 1 + i by omega] at this) (by
      rcases hf with hf | hf
      · exact Or.inl (by omega)
      · rw [show p + ((k + 1 : Nat) : Int) = p + 1 + k by omega] at hf
        exact Or.inr hf)
    show (if cDig (t p) = true then dgN t (p + 1) m + 1 else 0) = k + 1
    rw [h0, if_pos rfl, ih]
theorem dgV_rg {t : Int → Int} {p : Int} : ∀ (k : Nat), (∀ i : Nat, i < k → cDig (t (p + i)) = true) → 0 ≤ dgV t p k ∧ dgV t p k + 1 ≤ 10 ^ k
  | 0, _ => by
    show (0 : Int) ≤ 0 ∧ (0 : Int) + 1 ≤ 10 ^ 0
    decide
  | k + 1, h => by
    have ih := dgV_rg (t := t) (p := p) k (fun i hi => h i (by omega))
    have d := cDig_t (h k (by omega))
    show 0 ≤ dgV t p k * 10 + (t (p + k) - 48) ∧ dgV t p k * 10 + (t (p + k) - 48) + 1 ≤ 10 ^ (k + 1)
    rw [Int.pow_succ]
    omega
theorem dgV_5 {t : Int → Int} {p : Int} {k : Nat} (h : ∀ i : Nat, i < k → cDig (t (p + i)) = true) (hk : k ≤ 5) : 0 ≤ dgV t p k ∧ dgV t p k ≤ 99999 := by
  have q := dgV_rg k h
  have e : k = 0 ∨ k = 1 ∨ k = 2 ∨ k = 3 ∨ k = 4 ∨ k = 5 := by omega
  rcases e with rfl | rfl | rfl | rfl | rfl | rfl <;> (have q2 := q.2; have q1 := q.1; clear q; (first | rw [show (10 : Int) ^ 0 = 1 from rfl] at q2 | rw [show (10 : Int) ^ 1 = 10 from rfl] at q2 | rw [show (10 : Int) ^ 2 = 100 from rfl] at q2 | rw [show (10 : Int) ^ 3 = 1000 from rfl] at q2 | rw [show (10 : Int) ^ 4 = 10000 from rfl] at q2 | rw [show (10 : Int) ^ 5 = 100000 from rfl] at q2); omega)
theorem num_enc {sh v : Int} (h0 : 0 ≤ v) (h1 : v ≤ 99999) : encC sh v = 48 * 1048576 + v := by
  unfold encC
  have e : v / 1048576 = 0 := by omega
  have e2 : v % 1048576 = v := by omega
  rw [e, e2, if_neg (by decide), if_neg (by decide)]
  rfl
/-- what a reading method of sums says of a run -/
def KO (t : Int → Int) (N sh z : Int) (b : Nat) (h : Int) (M : Mem) (P : PS) (r : Option Value) (M1 : Mem) (ok : Int → Prop) : Prop := CQ M M1 ∧ CT0 M1 t N ∧ ((∃ P', r = some (.int 1) ∧ Rch t (0, b, h, P) (1, b, h, P') ∧ CR M1 P' sh N z ∧ FR M P M1 P' sh ∧ P'.1.2.1 = P.1.2.1 ∧ P'.1.2.2.2 = P.1.2.2.2 ∧ ok (t P'.1.1)) ∨ (r = some (.int 0) ∧ CB t (0, b, h, P) M1))
def pN (P : PS) (k : Nat) : PS := ((P.1.1 + k, P.1.2), P.2)
section
variable {t : Int → Int} {b : Nat} {h : Int} {P : PS}
theorem sF_num {k : Nat} (hd : ∀ i : Nat, i < k → cDig (t (P.1.1 + i)) = true) (h1 : 1 ≤ k) (h5 : k ≤ 5) (hf : cDig (t (P.1.1 + k)) = false) : sm t (0, b, h, P) = (1, b, h, pEm (pN P k) (dgV t P.1.1 k)) := by
  have h0 := hd 0 (by omega)
  rw [show P.1.1 + ((0 : Nat) : Int) = P.1.1 by omega] at h0
  have n91 : ¬ t P.1.1 = 91 := by have := cDig_t h0; omega
  have en : dgN t P.1.1 5 = k := dgN_eq 5 k _ h5 hd (Or.inr hf)
  show sF t b h P = _
  unfold sF
  rw [if_neg n91, if_pos h0, en, if_neg]
  · rfl
  · intro q
    have q2 := q.2
    subst q2
    have := hf.symm.trans q.1
    cases this
theorem sF_six (hd : ∀ i : Nat, i < 5 → cDig (t (P.1.1 + i)) = true) (hf : cDig (t (P.1.1 + 5)) = true) : sm t (0, b, h, P) = cBad 2 (pN P 5) := by
  have h0 := hd 0 (by omega)
  rw [show P.1.1 + ((0 : Nat) : Int) = P.1.1 by omega] at h0
  have n91 : ¬ t P.1.1 = 91 := by have := cDig_t h0; omega
  have en : dgN t P.1.1 5 = 5 := dgN_eq 5 5 _ (by omega) hd (Or.inl rfl)
  show sF t b h P = _
  unfold sF
  rw [if_neg n91, if_pos h0, if_pos ⟨hf, en⟩]
  rfl
theorem sF_opn (hc : t P.1.1 = 91) (h6 : ¬ P.1.2.1 = 6) : sm t (0, b, h, P) = (0, b, h, pAdv (pOpn (pPush P 14680064) 1)) := by
  show sF t b h P = _
  unfold sF
  rw [if_pos hc, if_neg h6]
theorem sF_sev (hc : t P.1.1 = 91) (h6 : P.1.2.1 = 6) : sm t (0, b, h, P) = cBad 5 P := by
  show sF t b h P = _
  unfold sF
  rw [if_pos hc, if_pos h6]
theorem sF_let (hc : ¬ t P.1.1 = 91) (hd : cDig (t P.1.1) = false) (hf : ¬ cFact (t P.1.1) = -1) : sm t (0, b, h, P) = (1, b, h, pAdv (pEm P (1048576 + cFact (t P.1.1)))) := by
  show sF t b h P = _
  unfold sF
  rw [if_neg hc, hd, if_neg (by decide), if_neg hf]
theorem sF_bad (hc : ¬ t P.1.1 = 91) (hd : cDig (t P.1.1) = false) (hf : cFact (t P.1.1) = -1) : sm t (0, b, h, P) = cBad 1 P := by
  show sF t b h P = _
  unfold sF
  rw [if_neg hc, hd, if_neg (by decide), if_pos hf]
theorem pHas_at {b : Nat} {w : Int} : ∀ (n k : Nat), k < n → b ≤ k → P.2.2 k / 1048576 = 14 → pHas P b n = true
  | 0, k, hk, _, _ => by omega
  | n + 1, k, hk, hb, he => by
    show (pHas P b n || (decide (b ≤ n) && decide (P.2.2 n / 1048576 = 14))) = true
    by_cases q : k = n
    · subst q
      rw [decide_eq_true hb, decide_eq_true he]
      exact Bool.or_true _
    · rw [pHas_at (w := w) n k (by omega) hb he]
      rfl
theorem sA_shut (h1 : ¬ (2 ≤ pTop P ∧ pTop P ≤ 6)) (h2 : cSum (t P.1.1) = -1) (hh : pHas P b P.1.2.2.2 = true) (hc : t P.1.1 = 93) : sm t (1, b, h, P) = (1, b, h, pAdv (pOpn (pPop P) (-1))) := by
  show sA t b h P = _
  unfold sA
  rw [if_neg (by omega), if_neg (by omega), if_neg (by omega), if_pos ⟨hc, hh⟩]
theorem sA_bad (h1 : ¬ (2 ≤ pTop P ∧ pTop P ≤ 6)) (h2 : cSum (t P.1.1) = -1) (hh : pHas P b P.1.2.2.2 = true) (hc : ¬ t P.1.1 = 93) : sm t (1, b, h, P) = cBad 1 P := by
  show sA t b h P = _
  unfold sA
  rw [if_neg (by omega), if_neg (by omega), if_neg (by omega), if_neg (fun q => hc q.1), if_pos hh]
end
theorem num_out {n d : Nat} {L : MLoc} {M : Mem} {x : Int32} {r : Option Value} {M1 : Mem} {t : Int → Int} {N sh z : Int} {P : PS} (l0 : mLd L 0 = some (.ref 130)) (l1 : mLd L 1 = some (.int x)) (hS : Sh M) (hT : CT0 M t N) (hC : CR M P sh N (z + 1)) (z0 : 0 ≤ z) (x0 : 0 ≤ x.toInt) (x9 : x.toInt ≤ 99999) (h : En n d 86 75 L [] M r M1) : r = some (.int 1) ∧ CQ M M1 ∧ CT0 M1 t N ∧ CR M1 (pEm P x.toInt) sh N z ∧ FR M P M1 (pEm P x.toInt) sh := by
  replace h := eAload (mi := 86) (pc := 75) (len := 1) (i := 0) rfl l0 h
  replace h := eGetR (a := 130) (j := 500) (g := 131) hS (by decide) (by decide) rfl rfl rfl (mi := 86) (pc := 76) (len := 3) rfl h
  replace h := eConst (mi := 86) (pc := 79) (len := 2) (v := 48) rfl h
  replace h := eIload (mi := 86) (pc := 81) (len := 1) (i := 1) rfl l1 h
  obtain ⟨r1, N2, g3, h⟩ := eCall (mi := 86) (pc := 82) (len := 3) (j := 60) (as := [.ref 131, .int (48 : Int32), .int x]) (rest := []) rfl (Or.inr (Or.inl rfl)) (by decide) rfl rfl h
  have ev : (stepV (48 : Int32) x).toInt = encC sh (x.toInt) := by rw [stepV_t (c := 48) (v := x) (a := 48) (by decide) (by decide) x0 (by omega), num_enc x0 x9]; omega
  obtain ⟨l160, hQ4, hT4, hC4, hF4, ei4⟩ := emit_ok (z := z) hS hT hC z0 ev
  obtain ⟨q4, eM4⟩ := step_en hS l160 g3
  rw [q4, eM4] at h
  replace h := ePopI (mi := 86) (pc := 85) (len := 1) rfl h
  replace h := eConst (mi := 86) (pc := 86) (len := 1) (v := 1) rfl h
  obtain ⟨e1, e2⟩ := eRetI (mi := 86) (pc := 87) (len := 1) rfl h
  rw [e2]
  exact ⟨e1, hQ4, hT4, hC4, hF4⟩
theorem num_fin {n d : Nat} {L : MLoc} {M0 M : Mem} {x : Int32} {r : Option Value} {M1 : Mem} {t : Int → Int} {N sh z : Int} {b k : Nat} {h0 : Int} {P : PS} (hd : cDig (t P.1.1) = true) (k1 : 1 ≤ k) (hk : k ≤ 5) (z0 : 0 ≤ z) (hQ : CQ M0 M) (hT : CT0 M t N) (hC : CR M (pN P k) sh N (z + k)) (hi : SM M0 M) (hx : x.toInt = dgV t P.1.1 k) (hall : ∀ i : Nat, i < k → cDig (t (P.1.1 + i)) = true) (hf : cDig (t (P.1.1 + k)) = false) (l0 : mLd L 0 = some (.ref 130)) (l1 : mLd L 1 = some (.int x)) (h : En n d 86 75 L [] M r M1) : KO t N sh z b h0 M0 P r M1 (fun _ => True) := by
  have rg := dgV_5 hall hk
  obtain ⟨e1, hQ4, hT4, hC4, hF4⟩ := num_out l0 l1 hQ.1 hT (hC.le (z' := z + 1) (by omega) (by omega)) z0 (by omega) (by omega) h
  rw [hx] at hC4 hF4
  refine ⟨hQ.tr hQ4, hT4, Or.inl ⟨pEm (pN P k) (dgV t P.1.1 k), e1, Rch.go (sF_num hall k1 hk hf) Rch.rf, hC4, ?_, rfl, rfl, True.intro⟩⟩
  have s0 : 0 ≤ sh := hC.2.2.2.1.1
  have f1 : FR M0 P M (pN P k) sh := FR.rf.st hi rfl rfl (Nat.le_refl _) (fun _ _ => rfl)
  exact f1.tr s0 hF4
theorem num_lp {t : Int → Int} {N sh z : Int} {b : Nat} {h0 : Int} {M0 : Mem} {P : PS} (hd : cDig (t P.1.1) = true) (z0 : 0 ≤ z) : ∀ (m k : Nat), k + m = 5 → ∀ (n d : Nat) (L : MLoc) (M : Mem) (x y : Int32) (r : Option Value) (M1 : Mem), mLd L 0 = some (.ref 130) → mLd L 1 = some (.int x) → mLd L 2 = some (.int y) → CQ M0 M → CT0 M t N → CR M (pN P k) sh N (z + k) → SM M0 M → x.toInt = dgV t P.1.1 k → y.toInt = k → (∀ i : Nat, i < k → cDig (t (P.1.1 + i)) = true) → En n d 86 4 L [] M r M1 → KO t N sh z b h0 M0 P r M1 (fun _ => True) := by
  intro m
  induction m with
  | zero =>
    intro k hm n d L M x y r M1 l0 l1 l2 hQ hT hC hi hx hy hall h
    have hk : k ≤ 5 := by omega
    have p0 : 0 ≤ P.1.1 + k := by have q := hC.2.2.2; have q1 : ((P.1.2.2.1 : Nat) : Int) + sh + (z + k) ≤ P.1.1 + k := q.2.1; have := q.1; omega
    replace h := eAload (mi := 86) (pc := 4) (len := 1) (i := 0) rfl l0 h
    replace h := eGetI (a := 130) (j := 503) hQ.1 (by decide) (by decide) rfl (mi := 86) (pc := 5) (len := 3) rfl h
    replace h := eAload (mi := 86) (pc := 8) (len := 1) (i := 0) rfl l0 h
    replace h := eGetI (a := 130) (j := 502) hQ.1 (by decide) (by decide) rfl (mi := 86) (pc := 9) (len := 3) rfl h
    rcases eIc (mi := 86) (pc := 12) (len := 3) (t := 75) rfl rfl h with ⟨c1, h⟩ | ⟨c1, h⟩
    · replace c1 : ¬ (iv M 130 3).toInt < (iv M 130 2).toInt := mC_ge.1 c1
      have hf : cDig (t (P.1.1 + k)) = false := by rw [hT.2.2.2.2.1 _ (by have q := c1; rw [hC.1, hT.2.1] at q; show N ≤ P.1.1 + k; have q : ¬ P.1.1 + k < N := q; omega)]; rfl
      have k1 : 1 ≤ k := by
        apply Classical.byContradiction
        intro q
        have q : k = 0 := by omega
        rw [q, show P.1.1 + ((0 : Nat) : Int) = P.1.1 by omega, hd] at hf
        cases hf
      exact num_fin hd k1 hk z0 hQ hT hC hi hx hall hf l0 l1 h
    · replace c1 : (iv M 130 3).toInt < (iv M 130 2).toInt := mC_ge.2 c1
      replace h := eAload (mi := 86) (pc := 15) (len := 1) (i := 0) rfl l0 h
      replace h := eGetX (a := 130) (j := 501) (b := 128) (i := 1) hT.1 rfl (mi := 86) (pc := 16) (len := 3) rfl h
      replace h := eAload (mi := 86) (pc := 19) (len := 1) (i := 0) rfl l0 h
      replace h := eGetI (a := 130) (j := 503) hQ.1 (by decide) (by decide) rfl (mi := 86) (pc := 20) (len := 3) rfl h
      obtain ⟨b2, h⟩ := eIald (x := (iv M 130 3)) hQ.1 (a := 128) (by decide) (by decide) rfl (mi := 86) (pc := 23) (len := 1) rfl h
      replace h := eCallP (mi := 86) (pc := 24) (len := 3) (j := 87) (as := [.int (iv M 128 (iv M 130 3).toInt.toNat)]) (rest := []) rfl (Or.inl rfl) (by decide) rfl rfl (fun _ _ _ _ g => bDig_en hQ.1 g) h
      rcases eIf (mi := 86) (pc := 27) (len := 3) (t := 75) rfl rfl h with ⟨c3, h⟩ | ⟨c3, h⟩
      · replace c3 : bDig (iv M 128 (iv M 130 3).toInt.toNat) = false := mB_eq.1 c3
        have lt : P.1.1 + k < N := by have q := c1; rw [hC.1, hT.2.1] at q; exact q
        have ec : (iv M 128 (iv M 130 3).toInt.toNat).toInt = t (P.1.1 + k) := by rw [hC.1, ← hT.2.2.2.1 _ (by show ((P.1.1 + k).toNat : Int) < N; omega)]; congr 1; show ((P.1.1 + k).toNat : Int) = P.1.1 + k; omega
        have hf : cDig (t (P.1.1 + k)) = false := by rw [← ec, ← bDig_c]; exact c3
        have k1 : 1 ≤ k := by
          apply Classical.byContradiction
          intro q
          have q : k = 0 := by omega
          rw [q, show P.1.1 + ((0 : Nat) : Int) = P.1.1 by omega, hd] at hf
          cases hf
        exact num_fin hd k1 hk z0 hQ hT hC hi hx hall hf l0 l1 h
      · replace c3 : bDig (iv M 128 (iv M 130 3).toInt.toNat) = true := mB_eq.2 c3
        replace h := eIload (mi := 86) (pc := 30) (len := 1) (i := 2) rfl l2 h
        replace h := eConst (mi := 86) (pc := 31) (len := 1) (v := 5) rfl h
        rcases eIc (mi := 86) (pc := 32) (len := 3) (t := 41) rfl rfl h with ⟨c4, h⟩ | ⟨c4, h⟩
        · replace c4 : ¬ y.toInt = 5 := mC_ne.1 c4
          replace h := eIload (mi := 86) (pc := 41) (len := 1) (i := 1) rfl l1 h
          replace h := eConst (mi := 86) (pc := 42) (len := 2) (v := 10) rfl h
          replace h := eMul (mi := 86) (pc := 44) (len := 1) rfl h
          replace h := eAload (mi := 86) (pc := 45) (len := 1) (i := 0) rfl l0 h
          replace h := eGetX (a := 130) (j := 501) (b := 128) (i := 1) hT.1 rfl (mi := 86) (pc := 46) (len := 3) rfl h
          replace h := eAload (mi := 86) (pc := 49) (len := 1) (i := 0) rfl l0 h
          replace h := eGetI (a := 130) (j := 503) hQ.1 (by decide) (by decide) rfl (mi := 86) (pc := 50) (len := 3) rfl h
          obtain ⟨b5, h⟩ := eIald (x := (iv M 130 3)) hQ.1 (a := 128) (by decide) (by decide) rfl (mi := 86) (pc := 53) (len := 1) rfl h
          replace h := eAdd (mi := 86) (pc := 54) (len := 1) rfl h
          replace h := eConst (mi := 86) (pc := 55) (len := 2) (v := 48) rfl h
          replace h := eSub (mi := 86) (pc := 57) (len := 1) rfl h
          replace h := eIstore (mi := 86) (pc := 58) (len := 1) (i := 1) rfl (by decide) h
          replace h := eIinc (mi := 86) (pc := 59) (len := 3) (i := 2) (k := 1) rfl (mLd_st1_int (by decide) l2) (by decide) h
          replace h := eAload (mi := 86) (pc := 62) (len := 1) (i := 0) rfl (mLd_st1_ref (by decide) (mLd_st1_ref (by decide) l0)) h
          replace h := eDupR (mi := 86) (pc := 63) (len := 1) rfl h
          replace h := eGetI (a := 130) (j := 503) hQ.1 (by decide) (by decide) rfl (mi := 86) (pc := 64) (len := 3) rfl h
          replace h := eConst (mi := 86) (pc := 67) (len := 1) (v := 1) rfl h
          replace h := eAdd (mi := 86) (pc := 68) (len := 1) rfl h
          obtain ⟨N6, eN6⟩ : ∃ X_, X_ = mPut M 130 3 (.int ((iv M 130 3) + (1 : Int32))) := ⟨_, rfl⟩
          replace h := ePutE (a := 130) (f := 3) (N := N6) rfl eN6 (mi := 86) (pc := 69) (len := 3) (j := 503) rfl h
          have hS7 : Sh N6 := by rw [eN6]; exact hQ.1.put (by decide) (by decide) rfl
          replace h := eGoto (mi := 86) (pc := 72) (len := 3) (t := 4) rfl rfl h
          exact absurd (show y.toInt = (5 : Int32).toInt by rw [hy]; show (k : Int) = 5; omega) c4
        · replace c4 : y.toInt = 5 := mC_ne.2 c4
          replace h := eAload (mi := 86) (pc := 35) (len := 1) (i := 0) rfl l0 h
          replace h := eConst (mi := 86) (pc := 36) (len := 1) (v := 2) rfl h
          obtain ⟨r8, N9, g10, h⟩ := eCall (mi := 86) (pc := 37) (len := 3) (j := 72) (as := [.ref 130, .int (2 : Int32)]) (rest := []) rfl (Or.inr (Or.inl rfl)) (by decide) rfl rfl h
          obtain ⟨q11, q12⟩ := fail_en hQ.1 g10
          rw [q11] at h
          have eN9 := q12
          have hS13 : Sh N9 := by rw [eN9]; exact hQ.1.put (by decide) (by decide) rfl
          obtain ⟨e1, e2⟩ := eRetI (mi := 86) (pc := 40) (len := 1) rfl h
          rw [e2]
          have lt : P.1.1 + k < N := by have q := c1; rw [hC.1, hT.2.1] at q; exact q
          have ec : (iv M 128 (iv M 130 3).toInt.toNat).toInt = t (P.1.1 + k) := by rw [hC.1, ← hT.2.2.2.1 _ (by show ((P.1.1 + k).toNat : Int) < N; omega)]; congr 1; show ((P.1.1 + k).toNat : Int) = P.1.1 + k; omega
          have k5 : k = 5 := by omega
          have hf : cDig (t (P.1.1 + k)) = true := by rw [← ec, ← bDig_c]; exact c3
          subst k5
          have f := fail_ok (k := 2) (c := (0, b, h0, P)) hQ.1 hT hC (by decide) (by decide) (Rch.go (sF_six hall hf) Rch.rf)
          rw [eN9]
          exact ⟨hQ.tr f.1, f.2.1, Or.inr ⟨e1, f.2.2⟩⟩
  | succ m ih =>
    intro k hm n d L M x y r M1 l0 l1 l2 hQ hT hC hi hx hy hall h
    have hk : k ≤ 5 := by omega
    have p0 : 0 ≤ P.1.1 + k := by have q := hC.2.2.2; have q1 : ((P.1.2.2.1 : Nat) : Int) + sh + (z + k) ≤ P.1.1 + k := q.2.1; have := q.1; omega
    replace h := eAload (mi := 86) (pc := 4) (len := 1) (i := 0) rfl l0 h
    replace h := eGetI (a := 130) (j := 503) hQ.1 (by decide) (by decide) rfl (mi := 86) (pc := 5) (len := 3) rfl h
    replace h := eAload (mi := 86) (pc := 8) (len := 1) (i := 0) rfl l0 h
    replace h := eGetI (a := 130) (j := 502) hQ.1 (by decide) (by decide) rfl (mi := 86) (pc := 9) (len := 3) rfl h
    rcases eIc (mi := 86) (pc := 12) (len := 3) (t := 75) rfl rfl h with ⟨c1, h⟩ | ⟨c1, h⟩
    · replace c1 : ¬ (iv M 130 3).toInt < (iv M 130 2).toInt := mC_ge.1 c1
      have hf : cDig (t (P.1.1 + k)) = false := by rw [hT.2.2.2.2.1 _ (by have q := c1; rw [hC.1, hT.2.1] at q; show N ≤ P.1.1 + k; have q : ¬ P.1.1 + k < N := q; omega)]; rfl
      have k1 : 1 ≤ k := by
        apply Classical.byContradiction
        intro q
        have q : k = 0 := by omega
        rw [q, show P.1.1 + ((0 : Nat) : Int) = P.1.1 by omega, hd] at hf
        cases hf
      exact num_fin hd k1 hk z0 hQ hT hC hi hx hall hf l0 l1 h
    · replace c1 : (iv M 130 3).toInt < (iv M 130 2).toInt := mC_ge.2 c1
      replace h := eAload (mi := 86) (pc := 15) (len := 1) (i := 0) rfl l0 h
      replace h := eGetX (a := 130) (j := 501) (b := 128) (i := 1) hT.1 rfl (mi := 86) (pc := 16) (len := 3) rfl h
      replace h := eAload (mi := 86) (pc := 19) (len := 1) (i := 0) rfl l0 h
      replace h := eGetI (a := 130) (j := 503) hQ.1 (by decide) (by decide) rfl (mi := 86) (pc := 20) (len := 3) rfl h
      obtain ⟨b2, h⟩ := eIald (x := (iv M 130 3)) hQ.1 (a := 128) (by decide) (by decide) rfl (mi := 86) (pc := 23) (len := 1) rfl h
      replace h := eCallP (mi := 86) (pc := 24) (len := 3) (j := 87) (as := [.int (iv M 128 (iv M 130 3).toInt.toNat)]) (rest := []) rfl (Or.inl rfl) (by decide) rfl rfl (fun _ _ _ _ g => bDig_en hQ.1 g) h
      rcases eIf (mi := 86) (pc := 27) (len := 3) (t := 75) rfl rfl h with ⟨c3, h⟩ | ⟨c3, h⟩
      · replace c3 : bDig (iv M 128 (iv M 130 3).toInt.toNat) = false := mB_eq.1 c3
        have lt : P.1.1 + k < N := by have q := c1; rw [hC.1, hT.2.1] at q; exact q
        have ec : (iv M 128 (iv M 130 3).toInt.toNat).toInt = t (P.1.1 + k) := by rw [hC.1, ← hT.2.2.2.1 _ (by show ((P.1.1 + k).toNat : Int) < N; omega)]; congr 1; show ((P.1.1 + k).toNat : Int) = P.1.1 + k; omega
        have hf : cDig (t (P.1.1 + k)) = false := by rw [← ec, ← bDig_c]; exact c3
        have k1 : 1 ≤ k := by
          apply Classical.byContradiction
          intro q
          have q : k = 0 := by omega
          rw [q, show P.1.1 + ((0 : Nat) : Int) = P.1.1 by omega, hd] at hf
          cases hf
        exact num_fin hd k1 hk z0 hQ hT hC hi hx hall hf l0 l1 h
      · replace c3 : bDig (iv M 128 (iv M 130 3).toInt.toNat) = true := mB_eq.2 c3
        replace h := eIload (mi := 86) (pc := 30) (len := 1) (i := 2) rfl l2 h
        replace h := eConst (mi := 86) (pc := 31) (len := 1) (v := 5) rfl h
        rcases eIc (mi := 86) (pc := 32) (len := 3) (t := 41) rfl rfl h with ⟨c4, h⟩ | ⟨c4, h⟩
        · replace c4 : ¬ y.toInt = 5 := mC_ne.1 c4
          replace h := eIload (mi := 86) (pc := 41) (len := 1) (i := 1) rfl l1 h
          replace h := eConst (mi := 86) (pc := 42) (len := 2) (v := 10) rfl h
          replace h := eMul (mi := 86) (pc := 44) (len := 1) rfl h
          replace h := eAload (mi := 86) (pc := 45) (len := 1) (i := 0) rfl l0 h
          replace h := eGetX (a := 130) (j := 501) (b := 128) (i := 1) hT.1 rfl (mi := 86) (pc := 46) (len := 3) rfl h
          replace h := eAload (mi := 86) (pc := 49) (len := 1) (i := 0) rfl l0 h
          replace h := eGetI (a := 130) (j := 503) hQ.1 (by decide) (by decide) rfl (mi := 86) (pc := 50) (len := 3) rfl h
          obtain ⟨b5, h⟩ := eIald (x := (iv M 130 3)) hQ.1 (a := 128) (by decide) (by decide) rfl (mi := 86) (pc := 53) (len := 1) rfl h
          replace h := eAdd (mi := 86) (pc := 54) (len := 1) rfl h
          replace h := eConst (mi := 86) (pc := 55) (len := 2) (v := 48) rfl h
          replace h := eSub (mi := 86) (pc := 57) (len := 1) rfl h
          replace h := eIstore (mi := 86) (pc := 58) (len := 1) (i := 1) rfl (by decide) h
          replace h := eIinc (mi := 86) (pc := 59) (len := 3) (i := 2) (k := 1) rfl (mLd_st1_int (by decide) l2) (by decide) h
          replace h := eAload (mi := 86) (pc := 62) (len := 1) (i := 0) rfl (mLd_st1_ref (by decide) (mLd_st1_ref (by decide) l0)) h
          replace h := eDupR (mi := 86) (pc := 63) (len := 1) rfl h
          replace h := eGetI (a := 130) (j := 503) hQ.1 (by decide) (by decide) rfl (mi := 86) (pc := 64) (len := 3) rfl h
          replace h := eConst (mi := 86) (pc := 67) (len := 1) (v := 1) rfl h
          replace h := eAdd (mi := 86) (pc := 68) (len := 1) rfl h
          obtain ⟨N6, eN6⟩ : ∃ X_, X_ = mPut M 130 3 (.int ((iv M 130 3) + (1 : Int32))) := ⟨_, rfl⟩
          replace h := ePutE (a := 130) (f := 3) (N := N6) rfl eN6 (mi := 86) (pc := 69) (len := 3) (j := 503) rfl h
          have hS7 : Sh N6 := by rw [eN6]; exact hQ.1.put (by decide) (by decide) rfl
          replace h := eGoto (mi := 86) (pc := 72) (len := 3) (t := 4) rfl rfl h
          have lt : P.1.1 + k < N := by have q := c1; rw [hC.1, hT.2.1] at q; exact q
          have ec : (iv M 128 (iv M 130 3).toInt.toNat).toInt = t (P.1.1 + k) := by rw [hC.1, ← hT.2.2.2.1 _ (by show ((P.1.1 + k).toNat : Int) < N; omega)]; congr 1; show ((P.1.1 + k).toNat : Int) = P.1.1 + k; omega
          have hf : cDig (t (P.1.1 + k)) = true := by rw [← ec, ← bDig_c]; exact c3
          have rg := dgV_5 hall (by omega)
          have dc := cDig_t hf
          have ad := adv_ok hQ.1 hT hC (by show t (P.1.1 + k) ≠ -1; omega)
          rw [← eN6] at ad
          refine ih (k + 1) (by omega) _ _ _ _ _ _ _ _ (mLd_st1_ref (by decide) (mLd_st1_ref (by decide) l0)) (mLd_st1_int (by decide) mLd_st1_i) mLd_st1_i (hQ.tr ad.1) ad.2.1 ?_ (hi.tr ad.2.2.2) ?_ ?_ ?_ h
          · have q := ad.2.2.1
            have ep : pAdv (pN P k) = pN P (k + 1) := by show ((P.1.1 + k + 1, P.1.2), P.2) = ((P.1.1 + ((k + 1 : Nat) : Int), P.1.2), P.2); rw [show P.1.1 + k + 1 = P.1.1 + ((k + 1 : Nat) : Int) by omega]
            rw [ep] at q
            rwa [show z + k + 1 = z + ((k + 1 : Nat) : Int) by omega] at q
          · show ((x * (10 : Int32) + iv M 128 (iv M 130 3).toInt.toNat) - (48 : Int32)).toInt = dgV t P.1.1 k * 10 + (t (P.1.1 + k) - 48)
            have m1 : (x * (10 : Int32)).toInt = x.toInt * 10 := i32_mul (y := 10) (by show -2147483648 ≤ x.toInt * 10; omega) (by show x.toInt * 10 ≤ 2147483647; omega)
            have m2 : (x * (10 : Int32) + iv M 128 (iv M 130 3).toInt.toNat).toInt = x.toInt * 10 + t (P.1.1 + k) := by rw [i32_add (by rw [m1, ec]; omega) (by rw [m1, ec]; omega), m1, ec]
            have c48 : (48 : Int32).toInt = 48 := rfl
            rw [i32_sub (by rw [m2, c48]; omega) (by rw [m2, c48]; omega), m2, c48, hx]
            omega
          · show (y + 1).toInt = ((k + 1 : Nat) : Int)
            rw [i32_inc (by omega) (by omega), hy]
            omega
          · intro i hi2
            by_cases q : i = k
            · subst q; exact hf
            · exact hall i (by omega)
        · replace c4 : y.toInt = 5 := mC_ne.2 c4
          replace h := eAload (mi := 86) (pc := 35) (len := 1) (i := 0) rfl l0 h
          replace h := eConst (mi := 86) (pc := 36) (len := 1) (v := 2) rfl h
          obtain ⟨r8, N9, g10, h⟩ := eCall (mi := 86) (pc := 37) (len := 3) (j := 72) (as := [.ref 130, .int (2 : Int32)]) (rest := []) rfl (Or.inr (Or.inl rfl)) (by decide) rfl rfl h
          obtain ⟨q11, q12⟩ := fail_en hQ.1 g10
          rw [q11] at h
          have eN9 := q12
          have hS13 : Sh N9 := by rw [eN9]; exact hQ.1.put (by decide) (by decide) rfl
          exact absurd c4 (by rw [hy]; show ¬ ((k : Int) = 5); omega)
theorem num_ok {n d : Nat} {M : Mem} {r : Option Value} {M1 : Mem} {t : Int → Int} {N sh z : Int} {b : Nat} {h0 : Int} {P : PS} (hS : Sh M) (hT : CT0 M t N) (hC : CR M P sh N z) (hd : cDig (t P.1.1) = true) (h : En n d 86 0 (lv_args 0 [.ref 130]) [] M r M1) : KO t N sh z b h0 M P r M1 (fun _ => True) := by
  replace h := eConst (mi := 86) (pc := 0) (len := 1) (v := 0) rfl h
  replace h := eIstore (mi := 86) (pc := 1) (len := 1) (i := 1) rfl (by decide) h
  replace h := eConst (mi := 86) (pc := 2) (len := 1) (v := 0) rfl h
  replace h := eIstore (mi := 86) (pc := 3) (len := 1) (i := 2) rfl (by decide) h
  refine num_lp hd hC.2.2.2.1.2.2.2 5 0 rfl _ _ _ _ _ _ _ _ rfl rfl rfl (CQ.rf hS) hT ?_ SM.rf rfl rfl (fun i hi => absurd hi (by omega)) h
  have ep : pN P 0 = P := by show ((P.1.1 + ((0 : Nat) : Int), P.1.2), P.2) = P; rw [show P.1.1 + ((0 : Nat) : Int) = P.1.1 by omega]
  rw [ep, show z + ((0 : Nat) : Int) = z by omega]
  exact hC

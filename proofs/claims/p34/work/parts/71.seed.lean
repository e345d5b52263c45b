/-! the seed: both answer by the argument alone -/
section
variable {d : Nat} {L : MLoc} {M : Mem} {Q : Option Value → Mem → Prop}
theorem c_eq {x y : Int32} (h : x.toInt = y.toInt) : mCond .eq x y = true := decide_eq_true (Int32.toInt_inj.mp h)
theorem c_nlt {x y : Int32} (h : y.toInt ≤ x.toInt) : mCond .lt x y = false := decide_eq_false (fun c => by have := Int32.lt_iff_toInt_lt.mp c; omega)
theorem c_gt {x y : Int32} (h : y.toInt < x.toInt) : mCond .gt x y = true := decide_eq_true (Int32.lt_iff_toInt_lt.mpr h)
theorem c_ngt {x y : Int32} (h : x.toInt ≤ y.toInt) : mCond .gt x y = false := decide_eq_false (fun c => by have := Int32.lt_iff_toInt_lt.mp c; omega)
theorem wi_run {x b : Int32} (l0 : mLd L 0 = some (.int x)) (l1 : mLd L 1 = some (.int b)) (k1 : 0 ≤ x.toInt ∧ x.toInt < b.toInt → Q (some (.int 1)) M) (k0 : ¬ (0 ≤ x.toInt ∧ x.toInt < b.toInt) → Q (some (.int 0)) M) : Ok d 148 0 L [] M Q := by
  have no : ¬ (0 ≤ x.toInt ∧ x.toInt < b.toInt) → Ok d 148 13 L [] M Q := fun h => by
    refine kIconst (mi := 148) (pc := 13) (len := 1) (v := 0) rfl ?_
    exact kRetI (len := 1) rfl (Or.inr ⟨rfl, Or.inl rfl⟩) (k0 h)
  refine kIload (mi := 148) (pc := 0) (len := 1) (i := 0) rfl l0 ?_
  by_cases h : x.toInt < 0
  · exact kIfT (len := 3) (t := 13) rfl rfl (c_lt (y := 0) h) (no (by omega))
  · refine kIfF (len := 3) (t := 13) rfl rfl (c_nlt (y := 0) (show (0 : Int) ≤ x.toInt by omega)) ?_
    refine kIload (len := 1) (i := 0) rfl l0 ?_
    refine kIload (len := 1) (i := 1) rfl l1 ?_
    by_cases h2 : b.toInt ≤ x.toInt
    · exact kIcT (len := 3) (t := 13) rfl rfl (c_ge h2) (no (by omega))
    · refine kIcF (len := 3) (t := 13) rfl rfl (c_nge (by omega)) ?_
      refine kIconst (len := 1) (v := 1) rfl ?_
      refine kGoto (len := 3) (t := 14) rfl rfl ?_
      exact kRetI (len := 1) rfl (Or.inr ⟨rfl, Or.inr rfl⟩) (k1 (by omega))
theorem in_run {x a b : Int32} (l0 : mLd L 0 = some (.int x)) (l1 : mLd L 1 = some (.int a)) (l2 : mLd L 2 = some (.int b)) (k1 : a.toInt ≤ x.toInt ∧ x.toInt ≤ b.toInt → Q (some (.int 1)) M) (k0 : ¬ (a.toInt ≤ x.toInt ∧ x.toInt ≤ b.toInt) → Q (some (.int 0)) M) : Ok d 160 0 L [] M Q := by
  have no : ¬ (a.toInt ≤ x.toInt ∧ x.toInt ≤ b.toInt) → Ok d 160 14 L [] M Q := fun h => by
    refine kIconst (mi := 160) (pc := 14) (len := 1) (v := 0) rfl ?_
    exact kRetI (len := 1) rfl (Or.inr ⟨rfl, Or.inl rfl⟩) (k0 h)
  refine kIload (mi := 160) (pc := 0) (len := 1) (i := 0) rfl l0 ?_
  refine kIload (len := 1) (i := 1) rfl l1 ?_
  by_cases h : x.toInt < a.toInt
  · exact kIcT (len := 3) (t := 14) rfl rfl (c_lt h) (no (by omega))
  · refine kIcF (len := 3) (t := 14) rfl rfl (c_nlt (by omega)) ?_
    refine kIload (len := 1) (i := 0) rfl l0 ?_
    refine kIload (len := 1) (i := 2) rfl l2 ?_
    by_cases h2 : b.toInt < x.toInt
    · exact kIcT (len := 3) (t := 14) rfl rfl (c_gt h2) (no (by omega))
    · refine kIcF (len := 3) (t := 14) rfl rfl (c_ngt (by omega)) ?_
      refine kIconst (len := 1) (v := 1) rfl ?_
      refine kGoto (len := 3) (t := 15) rfl rfl ?_
      exact kRetI (len := 1) rfl (Or.inr ⟨rfl, Or.inr rfl⟩) (k1 (by omega))
end
theorem mCall_148 {d : Nat} {M : Mem} {x y : Int32} (hd : 1 ≤ d) : mCall d 148 [.int y, .int x] M = some ([.int x, .int y], []) := by
  unfold mCall
  exact if_pos ⟨⟨hd, by decide, Nat.le_refl 2, Nat.zero_le 8, Nat.le_refl 2⟩, Or.inl rfl⟩
theorem mCall_160 {d : Nat} {M : Mem} {x y z : Int32} (hd : 1 ≤ d) : mCall d 160 [.int z, .int y, .int x] M = some ([.int x, .int y, .int z], []) := by
  unfold mCall
  exact if_pos ⟨⟨hd, by decide, Nat.le_refl 3, Nat.zero_le 8, Nat.le_refl 3⟩, Or.inl rfl⟩
section
variable {d n : Nat} {L : MLoc} {M : Mem} {Q : Option Value → Mem → Prop} {x : Int32}
theorem sx_run (hd : 1 ≤ d) (hh : mHd M 2 = some (10, 14)) (l0 : mLd L 0 = some (.ref 2)) (l1 : mLd L 1 = some (.int x)) (k1 : 0 ≤ x.toInt ∧ x.toInt < 65536 → Q (some (.int 1)) (mPut M 2 11 (.int x))) (k0 : ¬ (0 ≤ x.toInt ∧ x.toInt < 65536) → Q (some (.int 0)) M) : Ok d 141 0 L [] M Q := by
  refine kIload (mi := 141) (pc := 0) (len := 1) (i := 1) rfl l1 ?_
  refine kIconst (len := 2) (v := 65536) rfl ?_
  refine Ok.call (j := 148) (len := 3) rfl (Or.inl rfl) (by decide) (mCall_148 hd) ?_
  refine wi_run (x := x) (b := 65536) rfl rfl (fun h => ?_) (fun h => ?_)
  · refine kIfT (mi := 141) (len := 3) (t := 11) rfl rfl rfl ?_
    refine kAload (len := 1) (i := 0) rfl l0 ?_
    refine kIload (len := 1) (i := 1) rfl l1 ?_
    refine kPutf (len := 3) (j := 1011) rfl hh (by decide) (by decide) rfl ?_
    refine kIconst (len := 1) (v := 1) rfl ?_
    exact kRetI (len := 1) rfl (Or.inr ⟨rfl, Or.inr rfl⟩) (k1 h)
  · refine kIfF (mi := 141) (len := 3) (t := 11) rfl rfl rfl ?_
    refine kIconst (len := 1) (v := 0) rfl ?_
    exact kRetI (len := 1) rfl (Or.inr ⟨rfl, Or.inl rfl⟩) (k0 h)
theorem sm_run (hd : 1 ≤ d) (hh : mHd M 181 = some (11, 84)) (l0 : mLd L 0 = some (.ref 181)) (l1 : mLd L 1 = some (.int x)) (k1 : 0 ≤ x.toInt ∧ x.toInt < 65536 → Q (some (.int 1)) (mPut M 181 1 (.int x))) (k0 : ¬ (0 ≤ x.toInt ∧ x.toInt < 65536) → Q (some (.int 0)) M) : Ok d 270 0 L [] M Q := by
  refine kIload (mi := 270) (pc := 0) (len := 1) (i := 1) rfl l1 ?_
  refine kIconst (len := 1) (v := 0) rfl ?_
  refine kIconst (len := 3) (v := 65535) rfl ?_
  refine Ok.call (j := 160) (len := 3) rfl (Or.inl rfl) (by decide) (mCall_160 hd) ?_
  refine in_run (x := x) (a := 0) (b := 65535) rfl rfl rfl (fun h => ?_) (fun h => ?_)
  · refine kIfT (mi := 270) (len := 3) (t := 13) rfl rfl rfl ?_
    refine kAload (len := 1) (i := 0) rfl l0 ?_
    refine kIload (len := 1) (i := 1) rfl l1 ?_
    refine kPutf (len := 3) (j := 1101) rfl hh (by decide) (by decide) rfl ?_
    refine kIconst (len := 1) (v := 1) rfl ?_
    have h : (0 : Int) ≤ x.toInt ∧ x.toInt ≤ 65535 := h
    exact kRetI (len := 1) rfl (Or.inr ⟨rfl, Or.inr rfl⟩) (k1 (by omega))
  · refine kIfF (mi := 270) (len := 3) (t := 13) rfl rfl rfl ?_
    refine kIconst (len := 1) (v := 0) rfl ?_
    have h : ¬ ((0 : Int) ≤ x.toInt ∧ x.toInt ≤ 65535) := h
    exact kRetI (len := 1) rfl (Or.inr ⟨rfl, Or.inl rfl⟩) (k0 (by omega))
end
theorem mCall_v1 {d j n : Nat} {M : Mem} {x : Int32} {a : Nat} {t : Nat} {rest : List Value} (hd : 1 ≤ d) (hj : j < 282) (hi : mIT j = (2, 2, 2, t, 1)) (hr : (rest.map fun v => v.category).sum ≤ 8) (hh : mHd M a = some (t, n)) : mCall d j (.int x :: .ref a :: rest) M = some ([.ref a, .int x], rest) := by
  unfold mCall
  rw [hi]
  exact if_pos ⟨⟨hd, hj, by show 2 ≤ rest.length + 1 + 1; omega, hr, Nat.le_refl 2⟩, Or.inr (Or.inl ⟨rfl, mTag_hd hh⟩)⟩
theorem scr_slot {s : List Int32} {M : Mem} (hT : aTp s M) {k : Nat} (hk : k < s.length) : mSlot M 0 k = some (.int s[k]) := by
  rw [mSlot_eq hT.1, List.getElem?_map, List.getElem?_eq_getElem hk]
  rfl
theorem scr_hd {s : List Int32} {M : Mem} (hT : aTp s M) : mHd M 0 = some (64, s.length) := by
  unfold mHd
  rw [hT.1]
  show some (64, (s.map Value.int).length) = _
  rw [List.length_map]
theorem xv_np1 {M : Mem} {a i : Nat} {v : Value} (h : tPro (tGrp a) (aSlK a i) = false) : xv (mPut M a i v) = xv M := by
  funext c j
  by_cases e : c = a
  · subst e
    by_cases e2 : j = i
    · subst e2
      unfold xv
      rw [h]
      rfl
    · rw [xv_put2 e2]
  · rw [xv_put e]
theorem gs_sd {s : List Int32} : gSound s sg_sd := by
  intro γ d σ L st0 st M Q hz h k
  have e0 := eNil h
  subst e0
  have e1 := hz.2 (by decide)
  subst e1
  have hz1 : 2 ≤ d := hz.1
  have l1 := eR h (i := 1) (g := 2) (c := 0) rfl rfl
  have l2 := eR h (i := 2) (g := 181) (c := 0) rfl rfl
  obtain ⟨i, l3, ei⟩ := eI h (i := 3) (sy := 2) (c := 0) rfl
  obtain ⟨l0, el⟩ : mLd L 0 = some (.ref 0) ∧ σ 1 = (s.length : Int) := by
    rcases h.2.1 0 (5, 1, 0) rfl with h0 | ⟨w, h1, _, h2, h3⟩
    · cases h0
    · subst h2
      exact ⟨h1, h3⟩
  have b1 := eB h (i := 1) (lo := 0) (hi := 576) rfl
  have b2 := eB h (i := 2) (lo := 0) (hi := 576) rfl
  have z0 := (h.1.2.1.2.2 2 1 (-9) (List.Mem.head _)).2.2
  have s0 := h.1.2.1.1
  have hX : tXI γ M := h.2.2.2.2.2.2
  have hT := aTp_of h.2.2.2
  have hd := hT.hd (c := 181) (by decide) (by decide)
  have hd2 := hT.hd (c := 2) (by decide) (by decide)
  have ea : (i + 1).toInt = i.toInt + 1 := i32_inc (by omega) (by omega)
  have hk : (i + 1).toInt.toNat < s.length := by omega
  obtain ⟨x, hx⟩ : ∃ x, x = s[(i + 1).toInt.toNat] := ⟨_, rfl⟩
  have sl := scr_slot hT hk
  rw [← hx] at sl
  refine kAload (mi := 282) (pc := 1746) (len := 1) (i := 1) rfl l1 ?_
  refine kAload (len := 1) (i := 0) rfl l0 ?_
  refine kIload (len := 1) (i := 3) rfl l3 ?_
  refine kIconst (len := 1) (v := 1) rfl ?_
  refine kAdd (len := 1) rfl ?_
  refine kIald (len := 1) (n := s.length) rfl (scr_hd hT) (by show 0 ≤ (i + 1).toInt; omega) (by show (i + 1).toInt < _; omega) sl ?_
  refine Ok.call (j := 141) (len := 3) rfl (Or.inr (Or.inl rfl)) (by decide) (mCall_v1 (rest := []) (by omega) (by decide) rfl (Nat.zero_le 8) hd2) ?_
  have go : ∀ (r : Int32) (M1 : Mem), aTp s M1 → tXI γ M1 → aFr sg_sd.2.2.2.2.2.2.1 M M1 → (r = 1 ∧ 0 ≤ x.toInt ∧ x.toInt < 65536) ∨ (r = 0 ∧ ¬ (0 ≤ x.toInt ∧ x.toInt < 65536)) → Ok d 282 1755 L [.int r] M1 Q := by
    intro r M1 t1 t2 t3 hr
    have sl1 := scr_slot t1 hk
    rw [← hx] at sl1
    have hd3 := t1.hd (c := 181) (by decide) (by decide)
    refine kAload (mi := 282) (pc := 1755) (len := 1) (i := 2) rfl l2 ?_
    refine kAload (len := 1) (i := 0) rfl l0 ?_
    refine kIload (len := 1) (i := 3) rfl l3 ?_
    refine kIconst (len := 1) (v := 1) rfl ?_
    refine kAdd (len := 1) rfl ?_
    refine kIald (len := 1) (n := s.length) rfl (scr_hd t1) (by show 0 ≤ (i + 1).toInt; omega) (by show (i + 1).toInt < _; omega) sl1 ?_
    refine Ok.call (j := 270) (len := 3) rfl (Or.inr (Or.inl rfl)) (by decide) (mCall_v1 (rest := [.int r]) (by omega) (by decide) rfl (by show 1 + 0 ≤ 8; decide) hd3) ?_
    have fin : ∀ (q : Int32) (M2 : Mem), q = r → aMem (s, γ) M2 → aFr sg_sd.2.2.2.2.2.2.1 M M2 → Ok d 282 1764 L [.int q, .int r] M2 Q := by
      intro q M2 u1 u2 u3
      refine kIcT (mi := 282) (pc := 1764) (len := 3) (t := 1884) rfl rfl (c_eq (by rw [u1])) ?_
      refine k γ σ _ L [] M2 (List.Mem.head _) (fun _ _ => rfl) u3 gFr.rf aExt.rf ?_
      exact mkHold (by decide) s0 ⟨b00 s0, b1, b2, True.intro⟩ True.intro True.intro True.intro u2
    refine sm_run (x := x) (by omega) hd3 rfl rfl (fun hc => ?_) (fun hc => ?_)
    · refine fin 1 _ (by rcases hr with hr | hr; exact hr.1.symm; exact absurd hc hr.2) (aMem_mk (t1.put (a := 181) (i := 1) (v := .int x) (by decide) (by decide) (aTyI (lo := 0) (hi := 65535) (gs := []) (by omega) (by omega))) ?_) (t3.tr (aFr_put rfl))
      unfold tXI
      rw [xv_np1 rfl]
      exact t2
    · exact fin 0 M1 (by rcases hr with hr | hr; exact absurd hr.2 hc; exact hr.1.symm) (aMem_mk t1 t2) t3
  refine sx_run (x := x) (by omega) hd2 rfl rfl (fun hc => ?_) (fun hc => ?_)
  · refine go 1 _ (hT.put (a := 2) (i := 11) (v := .int x) (by decide) (by decide) (aTyI (lo := 0) (hi := 65535) (gs := []) (by omega) (by omega))) ?_ (aFr_put rfl) (Or.inl ⟨rfl, hc⟩)
    unfold tXI
    rw [xv_np (fun _ => rfl)]
    exact hX
  · exact go 0 M hT hX aFr.rf (Or.inr ⟨rfl, hc⟩)

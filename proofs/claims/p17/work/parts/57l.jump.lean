/-! open sums; jumps, and where they land -/
theorem cw_pos {q : Int → Bool} {f : Nat → Int} {j : Nat} (h : q (f j / xU) = true) : ∀ n, j < n → 1 ≤ xCw q f n
  | 0, hn => absurd hn (Nat.not_lt_zero _)
  | n + 1, hn => by
    have nn := xCw_nn (q := q) (f := f) n
    by_cases e : j = n
    · subst e
      rw [xCw_t h]
      omega
    · have := cw_pos h n (by omega)
      cases hc : q (f n / xU) with
      | true => rw [xCw_t hc]; omega
      | false => rw [xCw_f hc]; exact this
theorem cw_zero {q : Int → Bool} {f : Nat → Int} : ∀ n, (∀ j, j < n → q (f j / xU) = false) → xCw q f n = 0
  | 0, _ => rfl
  | n + 1, h => by rw [xCw_f (h n (by omega))]; exact cw_zero n (fun j hj => h j (by omega))
theorem hos_loop {s : List Int32} {d : Nat} {M : Mem} {Q : Option Value → Mem → Prop} {w : Int32} (hT : aTp s M) (hw : mSlot M 181 31 = some (.int w)) (w1 : w.toInt ≤ 180) (p : Nat) (hY : ∀ j : Nat, p ≤ j → (j : Int) < w.toInt → xI (xv M) 204 j / xU = 14 → Q (some (.int 1)) M) (hN : (∀ j : Nat, p ≤ j → (j : Int) < w.toInt → xI (xv M) 204 j / xU ≠ 14) → Q (some (.int 0)) M) (hnn : ∀ j : Nat, (j : Int) < w.toInt → 0 ≤ xI (xv M) 204 j) : ∀ (n : Nat) (L : MLoc) (k : Int32), w.toInt - k.toInt ≤ n → (p : Int) ≤ k.toInt → k.toInt ≤ 180 → mLd L 0 = some (.ref 181) → mLd L 2 = some (.int k) → (∀ j : Nat, p ≤ j → (j : Int) < k.toInt → xI (xv M) 204 j / xU ≠ 14) → Ok d 204 2 L [] M Q := by
  have hd := hT.hd (c := 181) (by decide) (by decide)
  intro n
  induction n with
  | zero =>
    intro L k h1 h2 h3 l0 l2 hk
    refine kIload (mi := 204) (pc := 2) (len := 1) (i := 2) rfl l2 ?_
    refine kAload (len := 1) (i := 0) rfl l0 ?_
    refine kGetf (len := 3) (j := 1131) rfl hd (by decide) hw ?_
    refine kIcT (len := 3) (t := 33) rfl rfl (c_ge (by omega)) ?_
    refine kIconst (len := 1) (v := 0) rfl ?_
    exact kRetI (len := 1) rfl (Or.inr ⟨rfl, Or.inl rfl⟩) (hN (fun j a b => hk j a (by omega)))
  | succ n ih =>
    intro L k h1 h2 h3 l0 l2 hk
    refine kIload (mi := 204) (pc := 2) (len := 1) (i := 2) rfl l2 ?_
    refine kAload (len := 1) (i := 0) rfl l0 ?_
    refine kGetf (len := 3) (j := 1131) rfl hd (by decide) hw ?_
    by_cases g : w.toInt ≤ k.toInt
    · refine kIcT (len := 3) (t := 33) rfl rfl (c_ge g) ?_
      refine kIconst (len := 1) (v := 0) rfl ?_
      exact kRetI (len := 1) rfl (Or.inr ⟨rfl, Or.inl rfl⟩) (hN (fun j a b => hk j a (by omega)))
    · refine kIcF (len := 3) (t := 33) rfl rfl (c_nge (by omega)) ?_
      obtain ⟨y, y1, y2, y3⟩ := hT.int (c := 204) (i := k.toInt.toNat) (by decide) (by decide) (by show _ < 180; omega) (lo := -2147483648) (hi' := 2147483647) (gs := []) rfl
      have n1 : xI (xv M) 204 k.toInt.toNat = y.toInt := xI_at rfl y1
      have hy : 0 ≤ y.toInt := by rw [← n1]; exact hnn _ (by omega)
      have ed := i32_divU hy
      refine kAload (len := 1) (i := 0) rfl l0 ?_
      refine kGetf (len := 3) (j := 1135) rfl hd (by decide) (t181_ref hT (i := 35) (g := 204) (lo := 0) (hi := 0) (by decide) rfl rfl) ?_
      refine kIload (len := 1) (i := 2) rfl l2 ?_
      refine kIald (len := 1) (n := 180) rfl (hT.hd (c := 204) (by decide) (by decide)) (by omega) (by show k.toInt < 180; omega) y1 ?_
      refine kIconst (len := 3) (v := 1048576) rfl ?_
      refine kDiv (len := 1) rfl (by decide) ?_
      refine kIconst (len := 2) (v := 14) rfl ?_
      by_cases g2 : y.toInt / xU = 14
      · refine kIcF (len := 3) (t := 27) rfl rfl (c_nne (by show (y / 1048576).toInt = 14; omega)) ?_
        refine kIconst (len := 1) (v := 1) rfl ?_
        exact kRetI (len := 1) rfl (Or.inr ⟨rfl, Or.inr rfl⟩) (hY k.toInt.toNat (by omega) (by omega) (by rw [n1]; exact g2))
      · refine kIcT (len := 3) (t := 27) rfl rfl (c_ne (by show (y / 1048576).toInt ≠ 14; omega)) ?_
        have ek : (k + 1).toInt = k.toInt + 1 := i32_inc (by omega) (by omega)
        refine kIinc (len := 3) rfl l2 (by decide) ?_
        refine kGoto (len := 3) (t := 2) rfl rfl ?_
        refine ih _ (k + 1) (by omega) (by omega) (by omega) (mLd_st1_ref (by decide) l0) mLd_st1_i ?_
        intro j a b
        by_cases e : j = k.toInt.toNat
        · rw [e, n1]; exact g2
        · exact hk j a (by omega)
theorem cs_hos {s : List Int32} : cSound0 s cm_hos := by
  intro γ d σ L M _ h
  have hl0 := eR h (i := 0) (g := 181) (c := 0) rfl rfl
  obtain ⟨l1, hl1, el1⟩ := eI h (i := 1) (sy := 1) (c := 0) rfl
  have q1_6 : (γ 1001 6).toInt = σ 0 + 1 := eG h (g := 1001) (i := 6) (sy := 0) (c := 1) (by decide) (List.Mem.head _)
  obtain ⟨f31, hf31, ef31⟩ := eF h (g := 181) (i := 31) (sy := 2) (c := 0) (by decide) (by decide) rfl (List.Mem.tail _ (List.Mem.head _))
  have q1_2 : (γ 1001 2).toInt = σ 3 + 0 := eG h (g := 1001) (i := 2) (sy := 3) (c := 0) (by decide) (List.Mem.tail _ (List.Mem.tail _ (List.Mem.head _)))
  have q1_5 : (γ 1001 5).toInt = σ 1 + 0 := eG h (g := 1001) (i := 5) (sy := 1) (c := 0) (by decide) (List.Mem.tail _ (List.Mem.tail _ (List.Mem.tail _ (List.Mem.head _))))
  have b1 := eB h (i := 1) (lo := 0) (hi := 180) rfl
  have b2 := eB h (i := 2) (lo := 0) (hi := 180) rfl
  have b3 := eB h (i := 3) (lo := 0) (hi := 180) rfl
  have s0 := h.1.2.1.1
  have h8 : x8 (s, γ) := h.2.2.2.1.2
  have hX : tXI γ M := h.2.2.2.2.2.2
  have hT := aTp_of h.2.2.2
  have hd := hT.hd (c := 181) (by decide) (by decide)
  obtain ⟨m, hm, m0, m1⟩ := hT.int (c := 181) (i := 30) (by decide) (by decide) (by decide) (lo := 0) (hi' := 180) (gs := []) rfl
  have hB := getB hX (by omega) hf31 hm
  have hP := hB.1.1
  have hs := xB_sum hB
  refine kIload (mi := 204) (pc := 0) (len := 1) (i := 1) rfl hl1 ?_
  refine kIstore (len := 1) (i := 2) rfl (by decide) ?_
  refine hos_loop hT hf31 (by omega) (γ 1001 5).toInt.toNat ?_ ?_ (fun j hj => hB.2.1.1 j (by omega)) (f31.toInt - l1.toInt).toNat _ l1 (by omega) (by omega) (by omega) (mLd_st1_ref (by decide) hl0) mLd_st1_i (fun j a b => by omega)
  · intro j j1 j2 j3
    have hc : 1 ≤ (γ 1001 2).toInt := by
      rw [hB.2.2.1.2.2.1]
      exact cw_pos (j := j) (sm_t j3) _ (by omega)
    refine ⟨aFr.rf, γ, gFr.rf, _, List.Mem.head _, σ, aExt.rf, ?_⟩
    exact mkHold (by decide) s0 ⟨b00 s0, b1, b2, b3, True.intro⟩ ⟨⟨by decide, by decide, by show σ 0 - σ 3 ≤ (-1); omega⟩, True.intro⟩ True.intro ⟨⟨by decide, _, rfl, by show (1 : Int) = σ 0 + 1; omega⟩, True.intro⟩ h.2.2.2
  · intro hn
    have hc : (γ 1001 2).toInt = 0 := by
      rw [hB.2.2.1.2.2.1]
      refine cw_zero _ (fun j hj => sm_f ?_)
      by_cases e : (γ 1001 5).toInt.toNat ≤ j
      · exact hn j e (by omega)
      · have := hB.2.1.2.1 j (by omega)
        omega
    refine ⟨aFr.rf, γ, gFr.rf, _, List.Mem.tail _ (List.Mem.head _), σ, aExt.rf, ?_⟩
    exact mkHold (by decide) s0 ⟨b00 s0, b1, b2, b3, True.intro⟩ ⟨⟨by decide, by decide, by show σ 3 - σ 0 ≤ 0; omega⟩, True.intro⟩ True.intro ⟨⟨by decide, _, rfl, by show (0 : Int) = σ 0 + 0; omega⟩, True.intro⟩ h.2.2.2
section
variable {s : List Int32} {γ γ' : Gh} {M : Mem}
theorem jump_ok (h8 : x8 (s, γ)) (hX : tXI γ M) (hT : aTp s M) (act : (γ 1001 6).toInt = 1) {w v w1 m u m1 : Int32} (hw : mSlot M 181 31 = some (.int w)) (hm : mSlot M 181 30 = some (.int m)) (w0 : 0 ≤ w.toInt) (w2 : w.toInt ≤ 178) (m0 : 0 ≤ m.toInt) (m2 : m.toInt ≤ 178) (e : w1.toInt = w.toInt + 1) (e' : m1.toInt = m.toInt + 1) (hg : ∀ g i, g ≠ 1001 → γ' g i = γ g i) (eA : γ' 1001 6 = γ 1001 6) (eL : γ' 1001 7 = γ 1001 7) (e1 : γ' 1001 8 = 0) (e2 : γ' 1001 9 = γ 1001 9) (eS : γ' 1001 10 = γ 1001 10) (hB : ∀ wb g : Nat → Int, (∀ k, k < w.toInt.toNat → wb k = xI (xv M) 204 k) → wb w.toInt.toNat = v.toInt → (∀ k, k < m.toInt.toNat → g k = xI (xv M) 203 k) → g m.toInt.toNat = u.toInt → xA γ' g wb (w.toInt.toNat + 1) (m.toInt.toNat + 1) (γ' 1001 5).toInt.toNat (γ 1001 10).toInt.toNat) : aMem0 (s, γ') (mPut (mPut (mPut (mPut M 204 w.toInt.toNat (.int v)) 181 31 (.int w1)) 203 m.toInt.toNat (.int u)) 181 30 (.int m1)) := by
  have hd := hT.hd (c := 181) (by decide) (by decide)
  have r := i32_rng v
  have r' := i32_rng u
  have hsg : (γ 1001 10).toInt.toNat ≤ m.toInt.toNat := (getB hX act hw hm).1.2.2.2
  refine aMem_mk (x8_g hg h8) ((((hT.put (a := 204) (i := w.toInt.toNat) (v := .int v) (by decide) (by decide) ⟨_, rfl, r.1, r.2⟩).put (a := 181) (i := 31) (v := .int w1) (by decide) (by decide) ⟨_, rfl, ?_, ?_⟩).put (a := 203) (i := m.toInt.toNat) (v := .int u) (by decide) (by decide) ⟨_, rfl, r'.1, r'.2⟩).put (a := 181) (i := 30) (v := .int m1) (by decide) (by decide) ⟨_, rfl, ?_, ?_⟩) ?_
  · show (0 : Int) ≤ w1.toInt
    omega
  · show w1.toInt ≤ 180
    omega
  · show (0 : Int) ≤ m1.toInt
    omega
  · show m1.toInt ≤ 180
    omega
  have n49 : ∀ i, i ≠ 30 → i ≠ 31 → xI (xv (mPut (mPut (mPut (mPut M 204 w.toInt.toNat (.int v)) 181 31 (.int w1)) 203 m.toInt.toNat (.int u)) 181 30 (.int m1))) 181 i = xI (xv M) 181 i := fun i i1 i2 => (xI_ne (Or.inr i1)).trans ((xI_ne (Or.inl (by decide))).trans ((xI_ne (Or.inr i2)).trans (xI_ne (Or.inl (by decide)))))
  refine tXI_par hX hg (fun c c1 c2 => (xv_put c1).trans ((xv_put (by omega)).trans ((xv_put c1).trans (xv_put (by omega))))) (n49 49 (by decide) (by decide)) ?_
  refine xp_s hX.2.2.2.2.2.2 act eA eL e1 e2 eS (fun c c1 => (xv_put (by omega)).trans ((xv_put (by omega)).trans ((xv_put (by omega)).trans (xv_put (by omega))))) (n49 32 (by decide) (by decide)) (fun k hk => (xI_ne (Or.inl (by decide))).trans ((xI_ne (Or.inr (by omega))).trans ((xI_ne (Or.inl (by decide))).trans (xI_ne (Or.inl (by decide)))))) ?_
  rw [xI_put rfl (mHd_put.trans (mHd_put.trans (mHd_put.trans hd))) (by decide), (xI_ne (Or.inr (by decide))).trans ((xI_ne (Or.inl (by decide))).trans (xI_put rfl (mHd_put.trans hd) (by decide))), show m1.toInt.toNat = m.toInt.toNat + 1 by omega, show w1.toInt.toNat = w.toInt.toNat + 1 by omega, xI_oth (c := 203) (by decide), xI_oth (c := 204) (by decide), xI_oth (c := 204) (by decide), xI_oth (c := 204) (by decide)]
  refine hB _ _ (fun k hk => xI_ne (Or.inr (by omega))) (xI_put rfl (hT.hd (c := 204) (by decide) (by decide)) (by show _ < 180; omega)) (fun k hk => (xI_ne (Or.inr (by omega))).trans ((xI_ne (Or.inl (by decide))).trans (xI_ne (Or.inl (by decide))))) ?_
  exact xI_put rfl (mHd_put.trans (mHd_put.trans (hT.hd (c := 203) (by decide) (by decide)))) (by show _ < 180; omega)
theorem land_ok (h8 : x8 (s, γ)) (hX : tXI γ M) (hT : aTp s M) (act : (γ 1001 6).toInt = 1) {w v w1 m : Int32} {a : Nat} (hw : mSlot M 181 31 = some (.int w)) (hm : mSlot M 181 30 = some (.int m)) (w0 : 1 ≤ w.toInt) (w2 : w.toInt ≤ 180) (ha : (γ 1001 10).toInt.toNat ≤ a) (ha2 : a < 180) (e : w1.toInt = w.toInt - 1) (hg : ∀ g i, g ≠ 1001 → γ' g i = γ g i) (eA : γ' 1001 6 = γ 1001 6) (eL : γ' 1001 7 = γ 1001 7) (e1 : γ' 1001 8 = 0) (e2 : γ' 1001 9 = γ 1001 9) (eS : γ' 1001 10 = γ 1001 10) (hB : ∀ g : Nat → Int, (∀ k, k ≠ a → g k = xI (xv M) 203 k) → g a = v.toInt → xA γ' g (xI (xv M) 204) (w.toInt.toNat - 1) m.toInt.toNat (γ' 1001 5).toInt.toNat (γ 1001 10).toInt.toNat) : aMem0 (s, γ') (mPut (mPut M 203 a (.int v)) 181 31 (.int w1)) := by
  have hd := hT.hd (c := 181) (by decide) (by decide)
  have r := i32_rng v
  refine aMem_mk (x8_g hg h8) ((hT.put (a := 203) (i := a) (v := .int v) (by decide) (by decide) ⟨_, rfl, r.1, r.2⟩).put (a := 181) (i := 31) (v := .int w1) (by decide) (by decide) ⟨_, rfl, ?_, ?_⟩) ?_
  · show (0 : Int) ≤ w1.toInt
    omega
  · show w1.toInt ≤ 180
    omega
  refine tXI_par hX hg (fun c c1 c2 => (xv_put c1).trans (xv_put (by omega))) ((xI_ne (Or.inr (by decide))).trans (xI_ne (Or.inl (by decide)))) ?_
  refine xp_s hX.2.2.2.2.2.2 act eA eL e1 e2 eS (fun c c1 => (xv_put (by omega)).trans (xv_put (by omega))) ((xI_ne (Or.inr (by decide))).trans (xI_ne (Or.inl (by decide)))) (fun k hk => (xI_ne (Or.inl (by decide))).trans (xI_ne (Or.inr (by omega)))) ?_
  rw [xI_oth (c := 203) (by decide), xI_oth (c := 204) (by decide), xI_oth (c := 204) (by decide), xI_put rfl (mHd_put.trans hd) (by decide), (xI_ne (Or.inr (by decide))).trans ((xI_ne (Or.inl (by decide))).trans (xI_at rfl hm)), show w1.toInt.toNat = w.toInt.toNat - 1 by omega]
  exact hB _ (fun k hk => xI_ne (Or.inr hk)) (xI_put rfl (hT.hd (c := 203) (by decide) (by decide)) ha2)
end
theorem mTag_hd {M : Mem} {a t n : Nat} (h : mHd M a = some (t, n)) : mTagOf M (.ref a) = t := by
  obtain ⟨fs, h1, _⟩ := mHd_ex h
  unfold mTagOf
  dsimp only
  rw [h1]
theorem mCall_197 {d n : Nat} {M : Mem} {x y : Int32} (hd : 1 ≤ d) (hh : mHd M 181 = some (11, n)) : mCall d 197 [.int y, .int x, .ref 181] M = some ([.ref 181, .int x, .int y], []) := by
  unfold mCall
  exact if_pos ⟨⟨hd, by decide, Nat.le_refl 3, Nat.zero_le 8, Nat.le_refl 3⟩, Or.inr (Or.inl ⟨rfl, mTag_hd hh⟩)⟩
theorem mLd_st1_oth {L : MLoc} {i j : Nat} {v : Value} (hj : j ≠ i) (hc : ∀ w, mLd L j = some w → j + 1 = i → w.category = 1) : mLd (mSt1 L i v) j = mLd L j := by
  cases h : mLd L j with
  | some w => exact mLd_st1 hj h (hc w h)
  | none =>
    unfold mLd at h ⊢
    unfold mSt1
    have e1 : ((i, v).1 == j) = false := beq_eq_false_iff_ne.mpr (fun e => hj e.symm)
    rw [List.find?_cons, e1]
    dsimp only
    rw [Option.map_eq_none_iff, List.find?_eq_none] at h ⊢
    intro x hx
    exact h x (List.mem_filter.mp hx).1
theorem kill_1 {L : MLoc} {i : Nat} {v : Value} {x : Int32} (h : mLd L i = some (.int x)) : ∀ j, aInN j [i + 1] = false → mLd (mSt1 L (i + 1) v) j = mLd L j := by
  intro j hj
  have e : j ≠ i + 1 := by
    intro e
    subst e
    unfold aInN at hj
    rw [Nat.beq_refl] at hj
    cases hj
  refine mLd_st1_oth e (fun w hw e2 => ?_)
  have e3 : j = i := by omega
  subst e3
  rw [h] at hw
  cases hw
  rfl
theorem kRemU {d mi pc len : Nat} {L : MLoc} {st : List Value} {M : Mem} {Q : Option Value → Mem → Prop} {y : Int32} (hat : mAt mi pc = some (len, .irem)) (hy : 0 ≤ y.toInt) (k : ∀ v : Int32, v.toInt = y.toInt % xU → Ok d mi (pc + len) L (.int v :: st) M Q) : Ok d mi pc L (.int 1048576 :: .int y :: st) M Q := kRem hat (by decide) (k _ (i32_remU hy))
theorem gs_jp {s : List Int32} : gSound0 s sg_jp := by
  intro γ d σ L st0 st M Q hz h k
  have e0 := eNil h
  subst e0
  have e1 := hz.2 (Nat.le_refl _)
  subst e1
  have hl0 := eR h (i := 0) (g := 181) (c := 0) rfl rfl
  obtain ⟨l1, hl1, el1⟩ := eI h (i := 1) (sy := 1) (c := 0) rfl
  have q1_6 : (γ 1001 6).toInt = σ 0 + 1 := eG h (g := 1001) (i := 6) (sy := 0) (c := 1) (by decide) (List.Mem.head _)
  have q1_4 : (γ 1001 4).toInt = σ 0 + 1 := eG h (g := 1001) (i := 4) (sy := 0) (c := 1) (by decide) (List.Mem.tail _ (List.Mem.head _))
  obtain ⟨f31, hf31, ef31⟩ := eF h (g := 181) (i := 31) (sy := 2) (c := 0) (by decide) (by decide) rfl (List.Mem.tail _ (List.Mem.tail _ (List.Mem.head _)))
  have q1_5 : (γ 1001 5).toInt = σ 2 + 0 := eG h (g := 1001) (i := 5) (sy := 2) (c := 0) (by decide) (List.Mem.tail _ (List.Mem.tail _ (List.Mem.tail _ (List.Mem.head _))))
  have q1_0 : (γ 1001 0).toInt = σ 3 + 0 := eG h (g := 1001) (i := 0) (sy := 3) (c := 0) (by decide) (List.Mem.tail _ (List.Mem.tail _ (List.Mem.tail _ (List.Mem.tail _ (List.Mem.head _)))))
  have b1 := eB h (i := 1) (lo := 11) (hi := 12) rfl
  have b2 := eB h (i := 2) (lo := 1) (hi := 178) rfl
  have b3 := eB h (i := 3) (lo := 0) (hi := 178) rfl
  have s0 := h.1.2.1.1
  have h8 : x8 (s, γ) := h.2.2.2.1.2
  have hX : tXI γ M := h.2.2.2.2.2.2
  have hT := aTp_of h.2.2.2
  have hd := hT.hd (c := 181) (by decide) (by decide)
  obtain ⟨m, hm, m0, m1⟩ := hT.int (c := 181) (i := 30) (by decide) (by decide) (by decide) (lo := 0) (hi' := 180) (gs := []) rfl
  have hB := getB hX (by omega) hf31 hm
  have hP := hB.1.1
  have hs := xB_sum hB
  have em := i32_mulU (x := l1) (by omega) (by omega)
  have ev : (1048576 * l1 + m).toInt = 1048576 * l1.toInt + m.toInt := by rw [i32_add (by omega) (by omega), em]
  have eu : (1048576 * l1 + 0).toInt = 1048576 * l1.toInt := by
    have : (1048576 * l1 + 0).toInt = (1048576 * l1).toInt + (0 : Int32).toInt := i32_add (by show -2147483648 ≤ _ + (0 : Int); omega) (by show _ + (0 : Int) ≤ 2147483647; omega)
    rw [this, em]
    exact Int.add_zero _
  have ew : (f31 + 1).toInt = f31.toInt + 1 := i32_inc (by omega) (by omega)
  have e1 : (m + 1).toInt = m.toInt + 1 := i32_inc (by omega) (by omega)
  have eW : (γ 1001 0 + 1).toInt = (γ 1001 0).toInt + 1 := i32_inc (by omega) (by omega)
  have eP : (γ 1001 5 + 1).toInt = (γ 1001 5).toInt + 1 := i32_inc (by omega) (by omega)
  refine kAload (mi := 208) (pc := 0) (len := 1) (i := 0) rfl hl0 ?_
  refine kGetf (len := 3) (j := 1135) rfl hd (by decide) (t181_ref hT (i := 35) (g := 204) (lo := 0) (hi := 0) (by decide) rfl rfl) ?_
  refine kAload (len := 1) (i := 0) rfl hl0 ?_
  refine kGetf (len := 3) (j := 1131) rfl hd (by decide) hf31 ?_
  refine kIconst (len := 3) (v := 1048576) rfl ?_
  refine kIload (len := 1) (i := 1) rfl hl1 ?_
  refine kMul (len := 1) rfl ?_
  refine kAload (len := 1) (i := 0) rfl hl0 ?_
  refine kGetf (len := 3) (j := 1130) rfl hd (by decide) hm ?_
  refine kAdd (len := 1) rfl ?_
  refine kIast (len := 1) (n := 180) rfl (hT.hd (c := 204) (by decide) (by decide)) (by decide) (by omega) (by show f31.toInt < 180; omega) ?_
  refine kAload (len := 1) (i := 0) rfl hl0 ?_
  refine kAload (len := 1) (i := 0) rfl hl0 ?_
  refine kGetf (len := 3) (j := 1131) rfl (mHd_put.trans hd) (by decide) ((mSlot_put_ne (Or.inl (by decide))).trans hf31) ?_
  refine kIconst (len := 1) (v := 1) rfl ?_
  refine kAdd (len := 1) rfl ?_
  refine kPutf (len := 3) (j := 1131) rfl (mHd_put.trans hd) (by decide) (by decide) rfl ?_
  refine kAload (len := 1) (i := 0) rfl hl0 ?_
  refine kIload (len := 1) (i := 1) rfl hl1 ?_
  refine kIconst (len := 1) (v := 0) rfl ?_
  refine Ok.call (j := 197) (len := 3) rfl (Or.inr (Or.inl rfl)) (by decide) (mCall_197 (by exact hz.1) (mHd_put.trans (mHd_put.trans hd))) ?_
  refine kAload (mi := 197) (pc := 0) (len := 1) (i := 0) rfl rfl ?_
  refine kGetf (len := 3) (j := 1134) rfl (mHd_put.trans (mHd_put.trans hd)) (by decide) ((mSlot_put_ne (Or.inr (by decide))).trans ((mSlot_put_ne (Or.inl (by decide))).trans (t181_ref hT (i := 34) (g := 203) (lo := 0) (hi := 0) (by decide) rfl rfl))) ?_
  refine kAload (len := 1) (i := 0) rfl rfl ?_
  refine kGetf (len := 3) (j := 1130) rfl (mHd_put.trans (mHd_put.trans hd)) (by decide) ((mSlot_put_ne (Or.inr (by decide))).trans ((mSlot_put_ne (Or.inl (by decide))).trans hm)) ?_
  refine kIconst (len := 3) (v := 1048576) rfl ?_
  refine kIload (len := 1) (i := 1) rfl rfl ?_
  refine kMul (len := 1) rfl ?_
  refine kIload (len := 1) (i := 2) rfl rfl ?_
  refine kAdd (len := 1) rfl ?_
  refine kIast (len := 1) (n := 180) rfl (mHd_put.trans (mHd_put.trans (hT.hd (c := 203) (by decide) (by decide)))) (by decide) (by omega) (by show m.toInt < 180; omega) ?_
  refine kAload (len := 1) (i := 0) rfl rfl ?_
  refine kAload (len := 1) (i := 0) rfl rfl ?_
  refine kGetf (len := 3) (j := 1130) rfl (mHd_put.trans (mHd_put.trans (mHd_put.trans hd))) (by decide) ((mSlot_put_ne (Or.inl (by decide))).trans ((mSlot_put_ne (Or.inr (by decide))).trans ((mSlot_put_ne (Or.inl (by decide))).trans hm))) ?_
  refine kIconst (len := 1) (v := 1) rfl ?_
  refine kAdd (len := 1) rfl ?_
  refine kPutf (len := 3) (j := 1130) rfl (mHd_put.trans (mHd_put.trans (mHd_put.trans hd))) (by decide) (by decide) rfl ?_
  refine kRetV (len := 1) rfl rfl ?_
  refine k (gUp (gUp (gUp (gUp (gUp γ 1001 4 0) 1001 5 (γ 1001 5 + 1)) 1001 0 (γ 1001 0 + 1)) 1001 3 l1) 1001 8 0) σ _ L [] _ (List.Mem.head _) (fun _ _ => rfl) ((aFr_put rfl).tr ((aFr_put rfl).tr ((aFr_put rfl).tr (aFr_put rfl)))) (gFr_up rfl (gFr_up rfl (gFr_up rfl (gFr_up rfl (gFr_up rfl gFr.rf))))) aExt.rf ?_
  exact mkHold (by decide) s0 ⟨b00 s0, b1, b2, b3, True.intro⟩ True.intro ⟨hF1_gh (by decide) (by decide) (by show (0 : Int) = σ 0 + 0; omega), hF1_re rfl (by decide) (by decide) ((mSlot_put_ne (Or.inr (by decide))).trans ((mSlot_put_ne (Or.inl (by decide))).trans (mSlot_put_eq (mHd_put.trans hd) (by decide)))) (by show ((f31 + 1) : Int32).toInt = σ 2 + 1; omega), hF1_gh (by decide) (by decide) (by show ((γ 1001 5 + 1) : Int32).toInt = σ 2 + 1; omega), hF1_gh (by decide) (by decide) (by show ((γ 1001 0 + 1) : Int32).toInt = σ 3 + 1; omega), hF1_gh (by decide) (by decide) (by show (l1 : Int32).toInt = σ 1 + 0; omega), True.intro⟩ True.intro (jump_ok (v := 1048576 * l1 + m) (u := 1048576 * l1 + 0) h8 hX hT (by omega) hf31 hm (by omega) (by omega) (by omega) (by omega) ew e1 (gN_up (gN_up (gN_up (gN_up (gN_up gN_rf))))) rfl rfl rfl rfl rfl (fun wb g h1 h2 h3 h4 => by
    show xA _ _ _ _ _ (γ 1001 5 + 1).toInt.toNat _
    rw [show (γ 1001 5 + 1).toInt.toNat = (γ 1001 5).toInt.toNat + 1 by omega]
    exact xB_A eW rfl rfl rfl rfl eP rfl (xB_jump hB (by omega) (by omega) (by omega) (by omega) (t := l1.toInt) (by omega) h1 (by rw [h2, ev]; show _ = l1.toInt * 1048576 + _; omega) h3 (by rw [h4, eu]; show _ = l1.toInt * 1048576; omega))))
theorem gs_ld {s : List Int32} : gSound0 s sg_ld := by
  intro γ d σ L st0 st M Q _ h k
  have e0 := eNil h
  subst e0
  have hl0 := eR h (i := 0) (g := 181) (c := 0) rfl rfl
  obtain ⟨l1, hl1, el1⟩ := eI h (i := 1) (sy := 1) (c := 0) rfl
  have q1_6 : (γ 1001 6).toInt = σ 0 + 1 := eG h (g := 1001) (i := 6) (sy := 0) (c := 1) (by decide) (List.Mem.head _)
  have q1_3 : (γ 1001 3).toInt = σ 2 + 0 := eG h (g := 1001) (i := 3) (sy := 2) (c := 0) (by decide) (List.Mem.tail _ (List.Mem.head _))
  have q1_4 : (γ 1001 4).toInt = σ 0 + 1 := eG h (g := 1001) (i := 4) (sy := 0) (c := 1) (by decide) (List.Mem.tail _ (List.Mem.tail _ (List.Mem.head _)))
  obtain ⟨f31, hf31, ef31⟩ := eF h (g := 181) (i := 31) (sy := 3) (c := 0) (by decide) (by decide) rfl (List.Mem.tail _ (List.Mem.tail _ (List.Mem.tail _ (List.Mem.head _))))
  have q1_5 : (γ 1001 5).toInt = σ 3 + 0 := eG h (g := 1001) (i := 5) (sy := 3) (c := 0) (by decide) (List.Mem.tail _ (List.Mem.tail _ (List.Mem.tail _ (List.Mem.tail _ (List.Mem.head _)))))
  have b1 := eB h (i := 1) (lo := 0) (hi := 1) rfl
  have b2 := eB h (i := 2) (lo := 11) (hi := 12) rfl
  have b3 := eB h (i := 3) (lo := 0) (hi := 180) rfl
  have s0 := h.1.2.1.1
  have h8 : x8 (s, γ) := h.2.2.2.1.2
  have hX : tXI γ M := h.2.2.2.2.2.2
  have hT := aTp_of h.2.2.2
  have hd := hT.hd (c := 181) (by decide) (by decide)
  obtain ⟨m, hm, m0, m1⟩ := hT.int (c := 181) (i := 30) (by decide) (by decide) (by decide) (lo := 0) (hi' := 180) (gs := []) rfl
  have hB := getB hX (by omega) hf31 hm
  have hP := hB.1.1
  have hs := xB_sum hB
  have ht := xB_T hB
  have ew : (f31 - 1).toInt = f31.toInt - 1 := i32_dec (by omega) (by omega)
  obtain ⟨n, hn⟩ : ∃ n, f31.toInt.toNat = n + 1 := ⟨f31.toInt.toNat - 1, by omega⟩
  rw [hn, show (γ 1001 5).toInt.toNat = n + 1 by omega] at hB
  obtain ⟨a, a1, a2, a3, a4, a5, hL⟩ := xB_land hB rfl (by omega) (by omega) (by omega) (by omega)
  obtain ⟨y, y1, y2, y3⟩ := hT.int (c := 204) (i := (f31 - 1).toInt.toNat) (by decide) (by decide) (by show _ < 180; omega) (lo := -2147483648) (hi' := 2147483647) (gs := []) rfl
  have n1 : xI (xv M) 204 n = y.toInt := by
    rw [show n = (f31 - 1).toInt.toNat by omega]
    exact xI_at rfl y1
  rw [n1] at a1
  obtain ⟨z, z1, z2, z3⟩ := hT.int (c := 203) (i := a) (by decide) (by decide) (by show _ < 180; omega) (lo := -2147483648) (hi' := 2147483647) (gs := []) rfl
  have n2 : xI (xv M) 203 a = z.toInt := xI_at rfl z1
  rw [n2] at a4
  have hy : 0 ≤ y.toInt := by rw [a1]; show 0 ≤ _ * 1048576 + _; omega
  have hz : 0 ≤ z.toInt := by
    have e : z.toInt / 1048576 = (γ 1001 3).toInt := a4
    omega
  have ed := i32_divU hz
  rw [a4] at ed
  have em := i32_mulU (x := z / 1048576) (by omega) (by omega)
  have ev : (1048576 * (z / 1048576) + m).toInt = 1048576 * (z / 1048576).toInt + m.toInt := by rw [i32_add (by omega) (by omega), em]
  have ey : y.toInt % xU = (a : Int) := by rw [a1]; show (_ * 1048576 + _) % 1048576 = _; omega
  refine kAload (mi := 207) (pc := 22) (len := 1) (i := 0) rfl hl0 ?_
  refine kGetf (len := 3) (j := 1135) rfl hd (by decide) (t181_ref hT (i := 35) (g := 204) (lo := 0) (hi := 0) (by decide) rfl rfl) ?_
  refine kAload (len := 1) (i := 0) rfl hl0 ?_
  refine kGetf (len := 3) (j := 1131) rfl hd (by decide) hf31 ?_
  refine kIconst (len := 1) (v := 1) rfl ?_
  refine kSub (len := 1) rfl ?_
  refine kIald (len := 1) (n := 180) rfl (hT.hd (c := 204) (by decide) (by decide)) (by show 0 ≤ (f31 - 1).toInt; omega) (by show (f31 - 1).toInt < 180; omega) y1 ?_
  refine kIconst (len := 3) (v := 1048576) rfl ?_
  refine kRemU (len := 1) rfl hy (fun v hv => ?_)
  rw [ey] at hv
  have hl0 := mLd_st1_ref (i := 2) (v := .int v) (by decide) hl0
  refine kIstore (len := 1) (i := 2) rfl (by decide) ?_
  refine kAload (len := 1) (i := 0) rfl hl0 ?_
  refine kGetf (len := 3) (j := 1134) rfl hd (by decide) (t181_ref hT (i := 34) (g := 203) (lo := 0) (hi := 0) (by decide) rfl rfl) ?_
  refine kIload (len := 1) (i := 2) rfl mLd_st1_i ?_
  refine kIconst (len := 3) (v := 1048576) rfl ?_
  refine kAload (len := 1) (i := 0) rfl hl0 ?_
  refine kGetf (len := 3) (j := 1134) rfl hd (by decide) (t181_ref hT (i := 34) (g := 203) (lo := 0) (hi := 0) (by decide) rfl rfl) ?_
  refine kIload (len := 1) (i := 2) rfl mLd_st1_i ?_
  refine kIald (len := 1) (n := 180) rfl (hT.hd (c := 203) (by decide) (by decide)) (by omega) (by show v.toInt < 180; omega) (by rw [show v.toInt.toNat = a by omega]; exact z1) ?_
  refine kIconst (len := 3) (v := 1048576) rfl ?_
  refine kDiv (len := 1) rfl (by decide) ?_
  refine kMul (len := 1) rfl ?_
  refine kAload (len := 1) (i := 0) rfl hl0 ?_
  refine kGetf (len := 3) (j := 1130) rfl hd (by decide) hm ?_
  refine kAdd (len := 1) rfl ?_
  refine kIast (len := 1) (n := 180) rfl (hT.hd (c := 203) (by decide) (by decide)) (by decide) (by omega) (by show v.toInt < 180; omega) ?_
  refine kAload (len := 1) (i := 0) rfl hl0 ?_
  refine kAload (len := 1) (i := 0) rfl hl0 ?_
  refine kGetf (len := 3) (j := 1131) rfl (mHd_put.trans hd) (by decide) ((mSlot_put_ne (Or.inl (by decide))).trans hf31) ?_
  refine kIconst (len := 1) (v := 1) rfl ?_
  refine kSub (len := 1) rfl ?_
  refine kPutf (len := 3) (j := 1131) rfl (mHd_put.trans hd) (by decide) (by decide) rfl ?_
  have eP : (γ 1001 5 - 1).toInt = (γ 1001 5).toInt - 1 := i32_dec (by omega) (by omega)
  have hL2 := hL (fun k => if k = a then (γ 1001 3).toInt * xU + (m.toInt.toNat : Int) else xI (xv M) 203 k) (fun k hk => if_neg hk) (if_pos rfl)
  have ht2 := xB_T hL2
  obtain ⟨tv, et⟩ := i32_ex ht2.1 (Int.le_trans ht2.2.1 (by decide))
  rw [← et] at ht2 hL
  have eva : v.toInt.toNat = a := by omega
  refine k (gUp (gUp (gUp γ 1001 5 (γ 1001 5 - 1)) 1001 3 tv) 1001 8 0) (aUp σ 4 tv.toInt) _ _ [] _ (List.Mem.head _) (kill_1 hl1) ((aFr_put rfl).tr (aFr_put rfl)) (gFr_up rfl (gFr_up rfl (gFr_up rfl gFr.rf))) aUp_ext ?_
  exact mkHold (by decide) s0 ⟨b00 s0, b1, b2, b3, ⟨by show (-1 : Int) ≤ tv.toInt; omega, by show tv.toInt ≤ 14; omega⟩, True.intro⟩ ⟨⟨by decide, by decide, by show σ 0 - σ 3 ≤ (-2); omega⟩, True.intro⟩ ⟨hF1_re rfl (by decide) (by decide) (mSlot_put_eq (mHd_put.trans hd) (by decide)) (by show ((f31 - 1) : Int32).toInt = σ 3 + (-1); omega), hF1_gh (by decide) (by decide) (by show ((γ 1001 5 - 1) : Int32).toInt = σ 3 + (-1); omega), hF1_gh (by decide) (by decide) (by show (tv : Int32).toInt = tv.toInt + 0; omega), True.intro⟩ True.intro (land_ok (v := 1048576 * (z / 1048576) + m) h8 hX hT (by omega) hf31 hm (by omega) (by omega) (by omega) (by omega) ew (gN_up (gN_up (gN_up gN_rf))) rfl rfl rfl rfl rfl (fun g h1 h2 => by
    show xA _ _ _ _ _ (γ 1001 5 - 1).toInt.toNat _
    rw [show f31.toInt.toNat - 1 = n by omega, show (γ 1001 5 - 1).toInt.toNat = n by omega]
    exact xB_A rfl rfl rfl rfl rfl eP rfl (hL g (fun k hk => h1 k (by omega)) (by rw [← eva, h2, ev]; show _ = _ * 1048576 + _; omega))))

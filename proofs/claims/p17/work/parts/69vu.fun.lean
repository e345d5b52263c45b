/-! the class's law (printed by fn23.py) -/
theorem ClQ.ci {t : Int → Int} {N : Int} {P Q : PS} (hn : N ≤ 160) (hL : TL t N) (hI : KI N P) (hz : P.1.2.1 = 0 ∧ P.1.2.2.2 = 0) (h : ClQ t P Q) : KI N Q ∧ (Q.1.2.1 = 0 ∧ Q.1.2.2.2 = 0) := by
  have lt : P.1.1 < N := hL _ (by rcases h with ⟨q, _⟩ | ⟨q, _⟩ <;> omega)
  rcases h with ⟨_, R, h1, h2⟩ | ⟨_, h2⟩
  · rw [h2]
    exact ⟨(Rch.mi hn hL (sum_mi hI hz.1 hz.2 lt) h1).ci, rfl, rfl⟩
  · rw [h2]
    exact ⟨⟨⟨by show 0 ≤ P.1.1 + 1; have := hI.1.1; omega, by show P.1.1 + 1 ≤ N; omega⟩, by show (P.1.2.2.1 : Int) ≤ 2 * (P.1.1 + 1); have := hI.2.1; omega, hI.2.2⟩, hz⟩
theorem ClE.ci {t : Int → Int} {N : Int} {P Q : PS} (hn : N ≤ 160) (hL : TL t N) (hI : KI N P) (hz : P.1.2.1 = 0 ∧ P.1.2.2.2 = 0) (h : ClE t P Q) : KI N Q ∧ (Q.1.2.1 = 0 ∧ Q.1.2.2.2 = 0) := by
  obtain ⟨c, R, h1, h2⟩ := h
  rw [h2]
  have e : pZ P = P := pZ_id hz.1 hz.2
  exact ⟨cnd_ci hn hL hI c (by rw [e]; exact h1), rfl, rfl⟩
theorem RdS.ci {t : Int → Int} {f g : Nat → Int} {N : Int} (h0 : 0 ≤ N) (hn : N ≤ 160) (hL : TL t N) : ∀ {k : Nat} {P : PS}, RdS t f g k P → KI N P ∧ (P.1.2.1 = 0 ∧ P.1.2.2.2 = 0)
  | 0, P, h => by
    have h : P = ((0, 0, 0, 0), f, g) := h
    subst h
    exact ⟨⟨⟨Int.le_refl 0, h0⟩, by show ((0 : Nat) : Int) ≤ 2 * 0; decide, fun k hk => absurd hk (Nat.not_lt_zero k)⟩, rfl, rfl⟩
  | k + 1, P, ⟨A, B, E, a1, _, a2, a3, a4, a5⟩ => by
    obtain ⟨i1, z1⟩ := RdS.ci h0 hn hL a1
    obtain ⟨i2, z2⟩ := a2.ci hn hL i1 z1
    obtain ⟨i3, z3⟩ := a3.ci hn hL i2 z2
    have lt : E.1.1 < N := hL _ (by omega)
    rw [a5]
    exact ⟨⟨⟨by show 0 ≤ E.1.1 + 1; have := i3.1.1; omega, by show E.1.1 + 1 ≤ N; omega⟩, by show (E.1.2.2.1 : Int) ≤ 2 * (E.1.1 + 1); have := i3.2.1; omega, i3.2.2⟩, z3⟩
theorem ClX.neg {t : Int → Int} {N v : Int} {Q : PS} (hn : N ≤ 160) (hL : TL t N) (hI : KI N Q) (hz : Q.1.2.1 = 0 ∧ Q.1.2.2.2 = 0) (h : ClX t Q v) : v ≤ -1000 := by
  have p0 := hI.1.1
  rcases h with ⟨_, e⟩ | ⟨h40, c', h1, h2, h3⟩
  · omega
  · have lt : Q.1.1 < N := hL _ (by omega)
    have e : pZ Q = Q := pZ_id hz.1 hz.2
    have sx : sm t (2, 0, 0, Q) = (2, 0, 0, pAdv (pOpn (pPush (pZ Q) 13631488) 1)) := by
      rw [e]
      exact sP_brk h40 (by rw [hz.1]; decide)
    have hM := cnd_mi lt hI.1.1 hI.2.1 hI.2.2
    obtain ⟨k, hk⟩ := h1
    cases k with
    | zero =>
      have hk : ((2, 0, 0, Q) : CF) = c' := hk
      rw [← hk] at h2
      exact absurd (show (2 : Nat) = 8 from h2) (by decide)
    | succ k =>
      have hk : smN t k (sm t (2, 0, 0, Q)) = c' := hk
      rw [sx] at hk
      have q := Rch.neg hn hL hM (by show (2 : Nat) ≠ 8; decide) ⟨k, hk⟩ h2
      omega
theorem ClB.neg {t : Int → Int} {N v : Int} {k : Nat} {P : PS} (hn : N ≤ 160) (hL : TL t N) (hI : KI N P) (hz : P.1.2.1 = 0 ∧ P.1.2.2.2 = 0) (h : ClB t k P v) : v ≤ -1000 := by
  have p0 := hI.1.1
  rcases h with ⟨_, e⟩ | ⟨_, _, e⟩ | ⟨hl, _, ⟨y, c', h1, h2, h3⟩ | ⟨Q, q1, q2⟩⟩
  · omega
  · omega
  · have lt : P.1.1 < N := hL _ (by omega)
    have q := Rch.neg hn hL (sum_mi hI hz.1 hz.2 lt) (by show (0 : Nat) ≠ 8; decide) h1 h2
    omega
  · obtain ⟨i2, z2⟩ := q1.ci hn hL hI hz
    exact q2.neg hn hL i2 z2
theorem RdE.neg {t : Int → Int} {f g : Nat → Int} {N v : Int} (h0 : 0 ≤ N) (hn : N ≤ 160) (hL : TL t N) (h : RdE t f g v 0) : v ≤ -1000 := by
  obtain ⟨k, P, h1, ⟨b, _⟩ | ⟨Q, P1, _, q1, q2, _, ⟨_, e, _⟩ | ⟨_, _, e⟩⟩⟩ := h
  · obtain ⟨i, z⟩ := h1.ci h0 hn hL
    exact b.neg hn hL i z
  · obtain ⟨i, z⟩ := h1.ci h0 hn hL
    obtain ⟨i2, z2⟩ := q1.ci hn hL i z
    obtain ⟨i3, _⟩ := q2.ci hn hL i2 z2
    have := i3.1.1
    omega
  · omega
theorem iv_s2 {X Y : Mem} {c i c' i' : Nat} (e : mSlot X c i = mSlot Y c' i') : iv X c i = iv Y c' i' := by unfold iv; rw [e]
/-- an array is copied whole -/
theorem eCpy {n d mi pc len : Nat} {L : MLoc} {st : List Value} {M : Mem} {r : Option Value} {M1 : Mem} {a0 a1 sz : Nat} {nn : Int32} (hS : Sh M) (a02 : 2 ≤ a0) (a03 : a0 < tEnd) (a12 : 2 ≤ a1) (a13 : a1 < tEnd) (hg0 : tTag (tGrp a0) = 64) (hg1 : tTag (tGrp a1) = 64) (hz0 : tSiz (tGrp a0) = sz) (hz1 : tSiz (tGrp a1) = sz) (ht0 : ∀ i, (tTy (tGrp a0) i).1 = 1) (ht1 : ∀ i, (tTy (tGrp a1) i).1 = 1) (hn : nn.toInt = (sz : Int)) (hat : mAt mi pc = some (len, .invokestatic 901)) (h : En n d mi pc L (.int nn :: .int 0 :: .ref a1 :: .int 0 :: .ref a0 :: st) M r M1) : ∃ M', En n d mi (pc + len) L st M' r M1 ∧ Sh M' ∧ (∀ c i, c ≠ a1 → mSlot M' c i = mSlot M c i) ∧ ∀ i, i < sz → mSlot M' a1 i = mSlot M a0 i := by
  obtain ⟨st', M', g1, g2⟩ := ePrimS hat (Or.inl rfl) (by decide) h
  obtain ⟨c0, m0, l0, t0⟩ := hS a0 a02 a03
  obtain ⟨c1, m1, l1, t1⟩ := hS a1 a12 a13
  rw [hg0] at m0
  rw [hg1] at m1
  unfold mPrim at g1
  rw [if_neg (by decide), if_pos rfl] at g1
  dsimp only at g1
  rw [m0, m1] at g1
  · obtain ⟨hc, g1⟩ := mIf g1
    cases g1
    have en : nn.toInt.toNat = sz := by omega
    have hg : ∀ i, i < sz → (mCpy c0 c1 (0 : Int32).toInt.toNat (0 : Int32).toInt.toNat nn.toInt.toNat)[i]? = c0[i]? := by
      intro i hi
      rw [en]
      unfold mCpy
      have hl : i < c1.length := by omega
      rw [List.getElem?_map, List.getElem?_range hl]
      show some (if (0 : Nat) ≤ i ∧ i < 0 + sz then c0.getD (0 + (i - 0)) (.int 0) else c1.getD i (.int 0)) = _
      rw [if_pos ⟨Nat.zero_le _, by omega⟩, show 0 + (i - 0) = i by omega, List.getD_eq_getElem?_getD, List.getElem?_eq_getElem (show i < c0.length by omega)]
      rfl
    have hlen : (mCpy c0 c1 (0 : Int32).toInt.toNat (0 : Int32).toInt.toNat nn.toInt.toNat).length = c1.length := by
      unfold mCpy
      rw [List.length_map, List.length_range]
    obtain ⟨Z, hZ⟩ : ∃ Z, Z = mCpy c0 c1 (0 : Int32).toInt.toNat (0 : Int32).toInt.toNat nn.toInt.toNat := ⟨_, rfl⟩
    rw [← hZ] at hg hlen g2
    obtain ⟨hL, _⟩ := List.getElem?_eq_some_iff.mp m1
    have ms : ∀ c i, c ≠ a1 → mSlot (M.set a1 (64, Z)) c i = mSlot M c i := fun c i hc => by
      unfold mSlot
      rw [List.getElem?_set_ne (Ne.symm hc)]
    have ma : (M.set a1 (64, Z))[a1]? = some (64, Z) := by rw [List.getElem?_set, if_pos rfl, if_pos hL]
    refine ⟨_, g2, ?_, ms, ?_⟩
    · intro c hc hd
      by_cases e : a1 = c
      · subst e
        refine ⟨Z, by rw [ma, hg1], by rw [hlen]; exact l1, ?_⟩
        intro i w hw
        have hi : i < sz := by
          obtain ⟨q, _⟩ := List.getElem?_eq_some_iff.mp hw
          omega
        rw [hg i hi] at hw
        have q := t0 i w hw
        unfold sTyk at q ⊢
        rw [ht0] at q
        rw [ht1]
        exact q
      · obtain ⟨fs, f1, f2, f3⟩ := hS c hc hd
        exact ⟨fs, by rw [List.getElem?_set_ne e]; exact f1, f2, f3⟩
    · intro i hi
      rw [mSlot_eq ma, hg i hi, mSlot_eq m0]
/-- where the arrays of the laws are -/
def LF (M : Mem) : Prop := ∀ k, k < 3 → mSlot M (152 + 6 * k) 0 = some (.ref (153 + 6 * k)) ∧ mSlot M (152 + 6 * k) 2 = some (.ref (154 + 6 * k)) ∧ mSlot M (152 + 6 * k) 3 = some (.ref (155 + 6 * k)) ∧ mSlot M (152 + 6 * k) 4 = some (.ref (156 + 6 * k))
/-- a law is what the draft was -/
def CPY (a : Nat) (M0 M1 : Mem) : Prop := Sh M1 ∧ (∀ c i, (c = a → i ≠ 1 ∧ i ≠ 5) → (c < a + 1 ∨ a + 4 < c) → mSlot M1 c i = mSlot M0 c i) ∧ iv M1 a 1 = iv M0 131 1 ∧ iv M1 a 5 = iv M0 131 5 ∧ (∀ i, i < 160 → iv M1 (a + 1) i = iv M0 132 i) ∧ ∀ i, i < 12 → iv M1 (a + 2) i = iv M0 133 i ∧ iv M1 (a + 3) i = iv M0 134 i ∧ iv M1 (a + 4) i = iv M0 135 i
theorem cpy_152 {n d : Nat} {M : Mem} {r : Option Value} {M1 : Mem} (hS : Sh M) (hF : LF M) (h : En n d 59 0 (lv_args 0 [.ref 152, .ref 131]) [] M r M1) : r = none ∧ CPY 152 M M1 := by
  replace h := eAload (mi := 59) (pc := 0) (len := 1) (i := 1) rfl rfl h
  replace h := eGetR (a := 131) (j := 400) (g := 132) hS (by decide) (by decide) rfl rfl rfl (mi := 59) (pc := 1) (len := 3) rfl h
  replace h := eConst (mi := 59) (pc := 4) (len := 1) (v := 0) rfl h
  replace h := eAload (mi := 59) (pc := 5) (len := 1) (i := 0) rfl rfl h
  replace h := eGetX (a := 152) (j := 400) (b := 153) (i := 0) (hF 0 (by decide)).1 rfl (mi := 59) (pc := 6) (len := 3) rfl h
  replace h := eConst (mi := 59) (pc := 9) (len := 1) (v := 0) rfl h
  replace h := eConst (mi := 59) (pc := 10) (len := 3) (v := 160) rfl h
  obtain ⟨N1, h, hS2, w3, w3v⟩ := eCpy (a0 := 132) (a1 := 153) (sz := 160) hS (by decide) (by decide) (by decide) (by decide) rfl rfl rfl rfl (fun _ => rfl) (fun _ => rfl) rfl (mi := 59) (pc := 13) (len := 3) rfl h
  replace h := eAload (mi := 59) (pc := 16) (len := 1) (i := 0) rfl rfl h
  replace h := eAload (mi := 59) (pc := 17) (len := 1) (i := 1) rfl rfl h
  replace h := eGetI (a := 131) (j := 401) hS2 (by decide) (by decide) rfl (mi := 59) (pc := 18) (len := 3) rfl h
  obtain ⟨N4, eN4⟩ : ∃ X_, X_ = mPut N1 152 1 (.int (iv N1 131 1)) := ⟨_, rfl⟩
  replace h := ePutE (a := 152) (f := 1) (N := N4) rfl eN4 (mi := 59) (pc := 21) (len := 3) (j := 401) rfl h
  have hS5 : Sh N4 := by rw [eN4]; exact hS2.put (by decide) (by decide) rfl
  have w6 : ∀ c x, (c ≠ 152 ∨ x ≠ 1) → mSlot N4 c x = mSlot N1 c x := fun c x q => by rw [eN4]; exact mSlot_put_ne q
  have w6v : iv N4 152 1 = (iv N1 131 1) := by rw [eN4]; exact iv_put_eq hS2 (by decide) (by decide) (by decide)
  replace h := eAload (mi := 59) (pc := 24) (len := 1) (i := 1) rfl rfl h
  replace h := eGetR (a := 131) (j := 402) (g := 133) hS5 (by decide) (by decide) rfl rfl rfl (mi := 59) (pc := 25) (len := 3) rfl h
  replace h := eConst (mi := 59) (pc := 28) (len := 1) (v := 0) rfl h
  replace h := eAload (mi := 59) (pc := 29) (len := 1) (i := 0) rfl rfl h
  replace h := eGetX (a := 152) (j := 402) (b := 154) (i := 2) ((w6 152 2 (Or.inr (by decide))).trans ((w3 152 2 (by decide)).trans (hF 0 (by decide)).2.1)) rfl (mi := 59) (pc := 30) (len := 3) rfl h
  replace h := eConst (mi := 59) (pc := 33) (len := 1) (v := 0) rfl h
  replace h := eConst (mi := 59) (pc := 34) (len := 2) (v := 12) rfl h
  obtain ⟨N7, h, hS8, w9, w9v⟩ := eCpy (a0 := 133) (a1 := 154) (sz := 12) hS5 (by decide) (by decide) (by decide) (by decide) rfl rfl rfl rfl (fun _ => rfl) (fun _ => rfl) rfl (mi := 59) (pc := 36) (len := 3) rfl h
  replace h := eAload (mi := 59) (pc := 39) (len := 1) (i := 1) rfl rfl h
  replace h := eGetR (a := 131) (j := 403) (g := 134) hS8 (by decide) (by decide) rfl rfl rfl (mi := 59) (pc := 40) (len := 3) rfl h
  replace h := eConst (mi := 59) (pc := 43) (len := 1) (v := 0) rfl h
  replace h := eAload (mi := 59) (pc := 44) (len := 1) (i := 0) rfl rfl h
  replace h := eGetX (a := 152) (j := 403) (b := 155) (i := 3) ((w9 152 3 (by decide)).trans ((w6 152 3 (Or.inr (by decide))).trans ((w3 152 3 (by decide)).trans (hF 0 (by decide)).2.2.1))) rfl (mi := 59) (pc := 45) (len := 3) rfl h
  replace h := eConst (mi := 59) (pc := 48) (len := 1) (v := 0) rfl h
  replace h := eConst (mi := 59) (pc := 49) (len := 2) (v := 12) rfl h
  obtain ⟨N10, h, hS11, w12, w12v⟩ := eCpy (a0 := 134) (a1 := 155) (sz := 12) hS8 (by decide) (by decide) (by decide) (by decide) rfl rfl rfl rfl (fun _ => rfl) (fun _ => rfl) rfl (mi := 59) (pc := 51) (len := 3) rfl h
  replace h := eAload (mi := 59) (pc := 54) (len := 1) (i := 1) rfl rfl h
  replace h := eGetR (a := 131) (j := 404) (g := 135) hS11 (by decide) (by decide) rfl rfl rfl (mi := 59) (pc := 55) (len := 3) rfl h
  replace h := eConst (mi := 59) (pc := 58) (len := 1) (v := 0) rfl h
  replace h := eAload (mi := 59) (pc := 59) (len := 1) (i := 0) rfl rfl h
  replace h := eGetX (a := 152) (j := 404) (b := 156) (i := 4) ((w12 152 4 (by decide)).trans ((w9 152 4 (by decide)).trans ((w6 152 4 (Or.inr (by decide))).trans ((w3 152 4 (by decide)).trans (hF 0 (by decide)).2.2.2)))) rfl (mi := 59) (pc := 60) (len := 3) rfl h
  replace h := eConst (mi := 59) (pc := 63) (len := 1) (v := 0) rfl h
  replace h := eConst (mi := 59) (pc := 64) (len := 2) (v := 12) rfl h
  obtain ⟨N13, h, hS14, w15, w15v⟩ := eCpy (a0 := 135) (a1 := 156) (sz := 12) hS11 (by decide) (by decide) (by decide) (by decide) rfl rfl rfl rfl (fun _ => rfl) (fun _ => rfl) rfl (mi := 59) (pc := 66) (len := 3) rfl h
  replace h := eAload (mi := 59) (pc := 69) (len := 1) (i := 0) rfl rfl h
  replace h := eAload (mi := 59) (pc := 70) (len := 1) (i := 1) rfl rfl h
  replace h := eGetI (a := 131) (j := 405) hS14 (by decide) (by decide) rfl (mi := 59) (pc := 71) (len := 3) rfl h
  obtain ⟨N16, eN16⟩ : ∃ X_, X_ = mPut N13 152 5 (.int (iv N13 131 5)) := ⟨_, rfl⟩
  replace h := ePutE (a := 152) (f := 5) (N := N16) rfl eN16 (mi := 59) (pc := 74) (len := 3) (j := 405) rfl h
  have hS17 : Sh N16 := by rw [eN16]; exact hS14.put (by decide) (by decide) rfl
  have w18 : ∀ c x, (c ≠ 152 ∨ x ≠ 5) → mSlot N16 c x = mSlot N13 c x := fun c x q => by rw [eN16]; exact mSlot_put_ne q
  have w18v : iv N16 152 5 = (iv N13 131 5) := by rw [eN16]; exact iv_put_eq hS14 (by decide) (by decide) (by decide)
  obtain ⟨e1, e2⟩ := eRetV (mi := 59) (pc := 77) (len := 1) rfl h
  rw [e2]
  refine ⟨e1, hS17, ?_, ?_, ?_, fun i hi => ?_, fun i hi => ⟨?_, ?_, ?_⟩⟩
  · intro c i h1 h2
    exact ((w18 c i (by by_cases q : c = 152; exact Or.inr (by have := h1 q; omega); exact Or.inl q)).trans ((w15 c i (by omega)).trans ((w12 c i (by omega)).trans ((w9 c i (by omega)).trans ((w6 c i (by by_cases q : c = 152; exact Or.inr (by have := h1 q; omega); exact Or.inl q)).trans (w3 c i (by omega)))))))
  · rw [iv_sl ((w18 152 1 (Or.inr (by decide))).trans ((w15 152 1 (by decide)).trans ((w12 152 1 (by decide)).trans (w9 152 1 (by decide))))), w6v]
    exact iv_sl (w3 131 1 (by decide))
  · rw [w18v]
    exact iv_sl ((w15 131 5 (by decide)).trans ((w12 131 5 (by decide)).trans ((w9 131 5 (by decide)).trans ((w6 131 5 (Or.inl (by decide))).trans (w3 131 5 (by decide))))))
  · exact iv_s2 (((w18 153 i (Or.inl (by decide))).trans ((w15 153 i (by decide)).trans ((w12 153 i (by decide)).trans ((w9 153 i (by decide)).trans (w6 153 i (Or.inl (by decide))))))).trans (w3v i hi))
  · exact iv_s2 ((((w18 154 i (Or.inl (by decide))).trans ((w15 154 i (by decide)).trans (w12 154 i (by decide)))).trans (w9v i hi)).trans ((w6 133 i (Or.inl (by decide))).trans (w3 133 i (by decide))))
  · exact iv_s2 ((((w18 155 i (Or.inl (by decide))).trans (w15 155 i (by decide))).trans (w12v i hi)).trans ((w9 134 i (by decide)).trans ((w6 134 i (Or.inl (by decide))).trans (w3 134 i (by decide)))))
  · exact iv_s2 (((w18 156 i (Or.inl (by decide))).trans (w15v i hi)).trans ((w12 135 i (by decide)).trans ((w9 135 i (by decide)).trans ((w6 135 i (Or.inl (by decide))).trans (w3 135 i (by decide))))))
theorem cpy_158 {n d : Nat} {M : Mem} {r : Option Value} {M1 : Mem} (hS : Sh M) (hF : LF M) (h : En n d 59 0 (lv_args 0 [.ref 158, .ref 131]) [] M r M1) : r = none ∧ CPY 158 M M1 := by
  replace h := eAload (mi := 59) (pc := 0) (len := 1) (i := 1) rfl rfl h
  replace h := eGetR (a := 131) (j := 400) (g := 132) hS (by decide) (by decide) rfl rfl rfl (mi := 59) (pc := 1) (len := 3) rfl h
  replace h := eConst (mi := 59) (pc := 4) (len := 1) (v := 0) rfl h
  replace h := eAload (mi := 59) (pc := 5) (len := 1) (i := 0) rfl rfl h
  replace h := eGetX (a := 158) (j := 400) (b := 159) (i := 0) (hF 1 (by decide)).1 rfl (mi := 59) (pc := 6) (len := 3) rfl h
  replace h := eConst (mi := 59) (pc := 9) (len := 1) (v := 0) rfl h
  replace h := eConst (mi := 59) (pc := 10) (len := 3) (v := 160) rfl h
  obtain ⟨N1, h, hS2, w3, w3v⟩ := eCpy (a0 := 132) (a1 := 159) (sz := 160) hS (by decide) (by decide) (by decide) (by decide) rfl rfl rfl rfl (fun _ => rfl) (fun _ => rfl) rfl (mi := 59) (pc := 13) (len := 3) rfl h
  replace h := eAload (mi := 59) (pc := 16) (len := 1) (i := 0) rfl rfl h
  replace h := eAload (mi := 59) (pc := 17) (len := 1) (i := 1) rfl rfl h
  replace h := eGetI (a := 131) (j := 401) hS2 (by decide) (by decide) rfl (mi := 59) (pc := 18) (len := 3) rfl h
  obtain ⟨N4, eN4⟩ : ∃ X_, X_ = mPut N1 158 1 (.int (iv N1 131 1)) := ⟨_, rfl⟩
  replace h := ePutE (a := 158) (f := 1) (N := N4) rfl eN4 (mi := 59) (pc := 21) (len := 3) (j := 401) rfl h
  have hS5 : Sh N4 := by rw [eN4]; exact hS2.put (by decide) (by decide) rfl
  have w6 : ∀ c x, (c ≠ 158 ∨ x ≠ 1) → mSlot N4 c x = mSlot N1 c x := fun c x q => by rw [eN4]; exact mSlot_put_ne q
  have w6v : iv N4 158 1 = (iv N1 131 1) := by rw [eN4]; exact iv_put_eq hS2 (by decide) (by decide) (by decide)
  replace h := eAload (mi := 59) (pc := 24) (len := 1) (i := 1) rfl rfl h
  replace h := eGetR (a := 131) (j := 402) (g := 133) hS5 (by decide) (by decide) rfl rfl rfl (mi := 59) (pc := 25) (len := 3) rfl h
  replace h := eConst (mi := 59) (pc := 28) (len := 1) (v := 0) rfl h
  replace h := eAload (mi := 59) (pc := 29) (len := 1) (i := 0) rfl rfl h
  replace h := eGetX (a := 158) (j := 402) (b := 160) (i := 2) ((w6 158 2 (Or.inr (by decide))).trans ((w3 158 2 (by decide)).trans (hF 1 (by decide)).2.1)) rfl (mi := 59) (pc := 30) (len := 3) rfl h
  replace h := eConst (mi := 59) (pc := 33) (len := 1) (v := 0) rfl h
  replace h := eConst (mi := 59) (pc := 34) (len := 2) (v := 12) rfl h
  obtain ⟨N7, h, hS8, w9, w9v⟩ := eCpy (a0 := 133) (a1 := 160) (sz := 12) hS5 (by decide) (by decide) (by decide) (by decide) rfl rfl rfl rfl (fun _ => rfl) (fun _ => rfl) rfl (mi := 59) (pc := 36) (len := 3) rfl h
  replace h := eAload (mi := 59) (pc := 39) (len := 1) (i := 1) rfl rfl h
  replace h := eGetR (a := 131) (j := 403) (g := 134) hS8 (by decide) (by decide) rfl rfl rfl (mi := 59) (pc := 40) (len := 3) rfl h
  replace h := eConst (mi := 59) (pc := 43) (len := 1) (v := 0) rfl h
  replace h := eAload (mi := 59) (pc := 44) (len := 1) (i := 0) rfl rfl h
  replace h := eGetX (a := 158) (j := 403) (b := 161) (i := 3) ((w9 158 3 (by decide)).trans ((w6 158 3 (Or.inr (by decide))).trans ((w3 158 3 (by decide)).trans (hF 1 (by decide)).2.2.1))) rfl (mi := 59) (pc := 45) (len := 3) rfl h
  replace h := eConst (mi := 59) (pc := 48) (len := 1) (v := 0) rfl h
  replace h := eConst (mi := 59) (pc := 49) (len := 2) (v := 12) rfl h
  obtain ⟨N10, h, hS11, w12, w12v⟩ := eCpy (a0 := 134) (a1 := 161) (sz := 12) hS8 (by decide) (by decide) (by decide) (by decide) rfl rfl rfl rfl (fun _ => rfl) (fun _ => rfl) rfl (mi := 59) (pc := 51) (len := 3) rfl h
  replace h := eAload (mi := 59) (pc := 54) (len := 1) (i := 1) rfl rfl h
  replace h := eGetR (a := 131) (j := 404) (g := 135) hS11 (by decide) (by decide) rfl rfl rfl (mi := 59) (pc := 55) (len := 3) rfl h
  replace h := eConst (mi := 59) (pc := 58) (len := 1) (v := 0) rfl h
  replace h := eAload (mi := 59) (pc := 59) (len := 1) (i := 0) rfl rfl h
  replace h := eGetX (a := 158) (j := 404) (b := 162) (i := 4) ((w12 158 4 (by decide)).trans ((w9 158 4 (by decide)).trans ((w6 158 4 (Or.inr (by decide))).trans ((w3 158 4 (by decide)).trans (hF 1 (by decide)).2.2.2)))) rfl (mi := 59) (pc := 60) (len := 3) rfl h
  replace h := eConst (mi := 59) (pc := 63) (len := 1) (v := 0) rfl h
  replace h := eConst (mi := 59) (pc := 64) (len := 2) (v := 12) rfl h
  obtain ⟨N13, h, hS14, w15, w15v⟩ := eCpy (a0 := 135) (a1 := 162) (sz := 12) hS11 (by decide) (by decide) (by decide) (by decide) rfl rfl rfl rfl (fun _ => rfl) (fun _ => rfl) rfl (mi := 59) (pc := 66) (len := 3) rfl h
  replace h := eAload (mi := 59) (pc := 69) (len := 1) (i := 0) rfl rfl h
  replace h := eAload (mi := 59) (pc := 70) (len := 1) (i := 1) rfl rfl h
  replace h := eGetI (a := 131) (j := 405) hS14 (by decide) (by decide) rfl (mi := 59) (pc := 71) (len := 3) rfl h
  obtain ⟨N16, eN16⟩ : ∃ X_, X_ = mPut N13 158 5 (.int (iv N13 131 5)) := ⟨_, rfl⟩
  replace h := ePutE (a := 158) (f := 5) (N := N16) rfl eN16 (mi := 59) (pc := 74) (len := 3) (j := 405) rfl h
  have hS17 : Sh N16 := by rw [eN16]; exact hS14.put (by decide) (by decide) rfl
  have w18 : ∀ c x, (c ≠ 158 ∨ x ≠ 5) → mSlot N16 c x = mSlot N13 c x := fun c x q => by rw [eN16]; exact mSlot_put_ne q
  have w18v : iv N16 158 5 = (iv N13 131 5) := by rw [eN16]; exact iv_put_eq hS14 (by decide) (by decide) (by decide)
  obtain ⟨e1, e2⟩ := eRetV (mi := 59) (pc := 77) (len := 1) rfl h
  rw [e2]
  refine ⟨e1, hS17, ?_, ?_, ?_, fun i hi => ?_, fun i hi => ⟨?_, ?_, ?_⟩⟩
  · intro c i h1 h2
    exact ((w18 c i (by by_cases q : c = 158; exact Or.inr (by have := h1 q; omega); exact Or.inl q)).trans ((w15 c i (by omega)).trans ((w12 c i (by omega)).trans ((w9 c i (by omega)).trans ((w6 c i (by by_cases q : c = 158; exact Or.inr (by have := h1 q; omega); exact Or.inl q)).trans (w3 c i (by omega)))))))
  · rw [iv_sl ((w18 158 1 (Or.inr (by decide))).trans ((w15 158 1 (by decide)).trans ((w12 158 1 (by decide)).trans (w9 158 1 (by decide))))), w6v]
    exact iv_sl (w3 131 1 (by decide))
  · rw [w18v]
    exact iv_sl ((w15 131 5 (by decide)).trans ((w12 131 5 (by decide)).trans ((w9 131 5 (by decide)).trans ((w6 131 5 (Or.inl (by decide))).trans (w3 131 5 (by decide))))))
  · exact iv_s2 (((w18 159 i (Or.inl (by decide))).trans ((w15 159 i (by decide)).trans ((w12 159 i (by decide)).trans ((w9 159 i (by decide)).trans (w6 159 i (Or.inl (by decide))))))).trans (w3v i hi))
  · exact iv_s2 ((((w18 160 i (Or.inl (by decide))).trans ((w15 160 i (by decide)).trans (w12 160 i (by decide)))).trans (w9v i hi)).trans ((w6 133 i (Or.inl (by decide))).trans (w3 133 i (by decide))))
  · exact iv_s2 ((((w18 161 i (Or.inl (by decide))).trans (w15 161 i (by decide))).trans (w12v i hi)).trans ((w9 134 i (by decide)).trans ((w6 134 i (Or.inl (by decide))).trans (w3 134 i (by decide)))))
  · exact iv_s2 (((w18 162 i (Or.inl (by decide))).trans (w15v i hi)).trans ((w12 135 i (by decide)).trans ((w9 135 i (by decide)).trans ((w6 135 i (Or.inl (by decide))).trans (w3 135 i (by decide))))))
theorem cpy_164 {n d : Nat} {M : Mem} {r : Option Value} {M1 : Mem} (hS : Sh M) (hF : LF M) (h : En n d 59 0 (lv_args 0 [.ref 164, .ref 131]) [] M r M1) : r = none ∧ CPY 164 M M1 := by
  replace h := eAload (mi := 59) (pc := 0) (len := 1) (i := 1) rfl rfl h
  replace h := eGetR (a := 131) (j := 400) (g := 132) hS (by decide) (by decide) rfl rfl rfl (mi := 59) (pc := 1) (len := 3) rfl h
  replace h := eConst (mi := 59) (pc := 4) (len := 1) (v := 0) rfl h
  replace h := eAload (mi := 59) (pc := 5) (len := 1) (i := 0) rfl rfl h
  replace h := eGetX (a := 164) (j := 400) (b := 165) (i := 0) (hF 2 (by decide)).1 rfl (mi := 59) (pc := 6) (len := 3) rfl h
  replace h := eConst (mi := 59) (pc := 9) (len := 1) (v := 0) rfl h
  replace h := eConst (mi := 59) (pc := 10) (len := 3) (v := 160) rfl h
  obtain ⟨N1, h, hS2, w3, w3v⟩ := eCpy (a0 := 132) (a1 := 165) (sz := 160) hS (by decide) (by decide) (by decide) (by decide) rfl rfl rfl rfl (fun _ => rfl) (fun _ => rfl) rfl (mi := 59) (pc := 13) (len := 3) rfl h
  replace h := eAload (mi := 59) (pc := 16) (len := 1) (i := 0) rfl rfl h
  replace h := eAload (mi := 59) (pc := 17) (len := 1) (i := 1) rfl rfl h
  replace h := eGetI (a := 131) (j := 401) hS2 (by decide) (by decide) rfl (mi := 59) (pc := 18) (len := 3) rfl h
  obtain ⟨N4, eN4⟩ : ∃ X_, X_ = mPut N1 164 1 (.int (iv N1 131 1)) := ⟨_, rfl⟩
  replace h := ePutE (a := 164) (f := 1) (N := N4) rfl eN4 (mi := 59) (pc := 21) (len := 3) (j := 401) rfl h
  have hS5 : Sh N4 := by rw [eN4]; exact hS2.put (by decide) (by decide) rfl
  have w6 : ∀ c x, (c ≠ 164 ∨ x ≠ 1) → mSlot N4 c x = mSlot N1 c x := fun c x q => by rw [eN4]; exact mSlot_put_ne q
  have w6v : iv N4 164 1 = (iv N1 131 1) := by rw [eN4]; exact iv_put_eq hS2 (by decide) (by decide) (by decide)
  replace h := eAload (mi := 59) (pc := 24) (len := 1) (i := 1) rfl rfl h
  replace h := eGetR (a := 131) (j := 402) (g := 133) hS5 (by decide) (by decide) rfl rfl rfl (mi := 59) (pc := 25) (len := 3) rfl h
  replace h := eConst (mi := 59) (pc := 28) (len := 1) (v := 0) rfl h
  replace h := eAload (mi := 59) (pc := 29) (len := 1) (i := 0) rfl rfl h
  replace h := eGetX (a := 164) (j := 402) (b := 166) (i := 2) ((w6 164 2 (Or.inr (by decide))).trans ((w3 164 2 (by decide)).trans (hF 2 (by decide)).2.1)) rfl (mi := 59) (pc := 30) (len := 3) rfl h
  replace h := eConst (mi := 59) (pc := 33) (len := 1) (v := 0) rfl h
  replace h := eConst (mi := 59) (pc := 34) (len := 2) (v := 12) rfl h
  obtain ⟨N7, h, hS8, w9, w9v⟩ := eCpy (a0 := 133) (a1 := 166) (sz := 12) hS5 (by decide) (by decide) (by decide) (by decide) rfl rfl rfl rfl (fun _ => rfl) (fun _ => rfl) rfl (mi := 59) (pc := 36) (len := 3) rfl h
  replace h := eAload (mi := 59) (pc := 39) (len := 1) (i := 1) rfl rfl h
  replace h := eGetR (a := 131) (j := 403) (g := 134) hS8 (by decide) (by decide) rfl rfl rfl (mi := 59) (pc := 40) (len := 3) rfl h
  replace h := eConst (mi := 59) (pc := 43) (len := 1) (v := 0) rfl h
  replace h := eAload (mi := 59) (pc := 44) (len := 1) (i := 0) rfl rfl h
  replace h := eGetX (a := 164) (j := 403) (b := 167) (i := 3) ((w9 164 3 (by decide)).trans ((w6 164 3 (Or.inr (by decide))).trans ((w3 164 3 (by decide)).trans (hF 2 (by decide)).2.2.1))) rfl (mi := 59) (pc := 45) (len := 3) rfl h
  replace h := eConst (mi := 59) (pc := 48) (len := 1) (v := 0) rfl h
  replace h := eConst (mi := 59) (pc := 49) (len := 2) (v := 12) rfl h
  obtain ⟨N10, h, hS11, w12, w12v⟩ := eCpy (a0 := 134) (a1 := 167) (sz := 12) hS8 (by decide) (by decide) (by decide) (by decide) rfl rfl rfl rfl (fun _ => rfl) (fun _ => rfl) rfl (mi := 59) (pc := 51) (len := 3) rfl h
  replace h := eAload (mi := 59) (pc := 54) (len := 1) (i := 1) rfl rfl h
  replace h := eGetR (a := 131) (j := 404) (g := 135) hS11 (by decide) (by decide) rfl rfl rfl (mi := 59) (pc := 55) (len := 3) rfl h
  replace h := eConst (mi := 59) (pc := 58) (len := 1) (v := 0) rfl h
  replace h := eAload (mi := 59) (pc := 59) (len := 1) (i := 0) rfl rfl h
  replace h := eGetX (a := 164) (j := 404) (b := 168) (i := 4) ((w12 164 4 (by decide)).trans ((w9 164 4 (by decide)).trans ((w6 164 4 (Or.inr (by decide))).trans ((w3 164 4 (by decide)).trans (hF 2 (by decide)).2.2.2)))) rfl (mi := 59) (pc := 60) (len := 3) rfl h
  replace h := eConst (mi := 59) (pc := 63) (len := 1) (v := 0) rfl h
  replace h := eConst (mi := 59) (pc := 64) (len := 2) (v := 12) rfl h
  obtain ⟨N13, h, hS14, w15, w15v⟩ := eCpy (a0 := 135) (a1 := 168) (sz := 12) hS11 (by decide) (by decide) (by decide) (by decide) rfl rfl rfl rfl (fun _ => rfl) (fun _ => rfl) rfl (mi := 59) (pc := 66) (len := 3) rfl h
  replace h := eAload (mi := 59) (pc := 69) (len := 1) (i := 0) rfl rfl h
  replace h := eAload (mi := 59) (pc := 70) (len := 1) (i := 1) rfl rfl h
  replace h := eGetI (a := 131) (j := 405) hS14 (by decide) (by decide) rfl (mi := 59) (pc := 71) (len := 3) rfl h
  obtain ⟨N16, eN16⟩ : ∃ X_, X_ = mPut N13 164 5 (.int (iv N13 131 5)) := ⟨_, rfl⟩
  replace h := ePutE (a := 164) (f := 5) (N := N16) rfl eN16 (mi := 59) (pc := 74) (len := 3) (j := 405) rfl h
  have hS17 : Sh N16 := by rw [eN16]; exact hS14.put (by decide) (by decide) rfl
  have w18 : ∀ c x, (c ≠ 164 ∨ x ≠ 5) → mSlot N16 c x = mSlot N13 c x := fun c x q => by rw [eN16]; exact mSlot_put_ne q
  have w18v : iv N16 164 5 = (iv N13 131 5) := by rw [eN16]; exact iv_put_eq hS14 (by decide) (by decide) (by decide)
  obtain ⟨e1, e2⟩ := eRetV (mi := 59) (pc := 77) (len := 1) rfl h
  rw [e2]
  refine ⟨e1, hS17, ?_, ?_, ?_, fun i hi => ?_, fun i hi => ⟨?_, ?_, ?_⟩⟩
  · intro c i h1 h2
    exact ((w18 c i (by by_cases q : c = 164; exact Or.inr (by have := h1 q; omega); exact Or.inl q)).trans ((w15 c i (by omega)).trans ((w12 c i (by omega)).trans ((w9 c i (by omega)).trans ((w6 c i (by by_cases q : c = 164; exact Or.inr (by have := h1 q; omega); exact Or.inl q)).trans (w3 c i (by omega)))))))
  · rw [iv_sl ((w18 164 1 (Or.inr (by decide))).trans ((w15 164 1 (by decide)).trans ((w12 164 1 (by decide)).trans (w9 164 1 (by decide))))), w6v]
    exact iv_sl (w3 131 1 (by decide))
  · rw [w18v]
    exact iv_sl ((w15 131 5 (by decide)).trans ((w12 131 5 (by decide)).trans ((w9 131 5 (by decide)).trans ((w6 131 5 (Or.inl (by decide))).trans (w3 131 5 (by decide))))))
  · exact iv_s2 (((w18 165 i (Or.inl (by decide))).trans ((w15 165 i (by decide)).trans ((w12 165 i (by decide)).trans ((w9 165 i (by decide)).trans (w6 165 i (Or.inl (by decide))))))).trans (w3v i hi))
  · exact iv_s2 ((((w18 166 i (Or.inl (by decide))).trans ((w15 166 i (by decide)).trans (w12 166 i (by decide)))).trans (w9v i hi)).trans ((w6 133 i (Or.inl (by decide))).trans (w3 133 i (by decide))))
  · exact iv_s2 ((((w18 167 i (Or.inl (by decide))).trans (w15 167 i (by decide))).trans (w12v i hi)).trans ((w9 134 i (by decide)).trans ((w6 134 i (Or.inl (by decide))).trans (w3 134 i (by decide)))))
  · exact iv_s2 (((w18 168 i (Or.inl (by decide))).trans (w15v i hi)).trans ((w12 135 i (by decide)).trans ((w9 135 i (by decide)).trans ((w6 135 i (Or.inl (by decide))).trans (w3 135 i (by decide))))))
/-- what the telling of a law leaves as it is, in the class -/
def CZ (M M' : Mem) : Prop := ∀ c i, (c = 127 → i ≠ 1) → (c < 130 ∨ 135 < c) → (c < 152 ∨ 168 < c) → mSlot M' c i = mSlot M c i
/-- the class's answer to a law -/
def LCO (t : Int → Int) (f g : Nat → Int) (M0 : Mem) (i : Nat) (r : Option Value) (M1 : Mem) : Prop := Sh M1 ∧ CZ M0 M1 ∧ (iv M1 127 1).toInt = 0 ∧ ∃ x : Int32, r = some (.int x) ∧ ((RdE t f g x.toInt 0 ∧ ∀ c j, 152 ≤ c → mSlot M1 c j = mSlot M0 c j) ∨ ∃ k P Q P1 top Mx, RdE t f g 0 (k + 1) ∧ x.toInt = (k : Int) + 1 ∧ RdS t f g k P ∧ ClQ t P Q ∧ ClE t Q P1 ∧ PGS t f g Mx P1.2.1 (k + 1) P1.1.2.2.1 top ∧ (iv Mx 131 5).toInt = (k : Int) + 1 ∧ (iv Mx 131 1).toInt = top ∧ Sh Mx ∧ (∀ c j, (c < 130 ∨ 135 < c) → (c = 127 → j ≠ 1) → mSlot Mx c j = mSlot M0 c j) ∧ CPY (152 + 6 * i) Mx M1)
theorem eLwr {n d mi pc len : Nat} {L : MLoc} {st : List Value} {M : Mem} {r : Option Value} {M1 : Mem} {x : Int32} (hS : Sh M) (hR : ∀ k, k < 3 → mSlot M 129 k = some (.ref (152 + 6 * k))) (hat : mAt mi pc = some (len, .aaload)) (h : En n d mi pc L (.int x :: .ref 129 :: st) M r M1) : (0 ≤ x.toInt ∧ x.toInt.toNat < 3) ∧ En n d mi (pc + len) L (.ref (152 + 6 * x.toInt.toNat) :: st) M r M1 := by
  obtain ⟨⟨h0, h1⟩, b, hb, _, h⟩ := eAald hS (by decide) (by decide) rfl hat h
  have h1 : x.toInt.toNat < 3 := h1
  rw [hR _ h1] at hb
  cases hb
  exact ⟨⟨h0, h1⟩, h⟩
theorem TX.tl {M : Mem} {t : Int → Int} {n : Int} (h : TX M t n) : TL t n := fun p hp => by
  apply Classical.byContradiction
  intro q
  exact hp (h.2.2.1 p (by omega))
theorem bIn3_true2 {x : Int32} (h : bIn x 3 = true) : 0 ≤ x.toInt ∧ x.toInt < 3 := bIn_true h
theorem bIn3_of {x : Int32} (h : 0 ≤ x.toInt ∧ x.toInt < 3) : bIn x 3 = true := by
  unfold bIn
  rw [decide_eq_false (show ¬ x.toInt < 0 by omega), decide_eq_true (show x.toInt < (3 : Int32).toInt from h.2)]
  rfl
theorem lawC_en {t : Int → Int} {f g : Nat → Int} {i n : Int32} {kf d : Nat} {M : Mem} {r : Option Value} {M1 : Mem} (hS : Sh M) (hR : ∀ k, k < 3 → mSlot M 129 k = some (.ref (152 + 6 * k))) (hF : LF M) (hX : (1 ≤ n.toInt ∧ n.toInt ≤ 160) ∧ n.toInt ≤ (iv M 127 1).toInt → TX M t n.toInt) (h : En kf d 120 0 (lv_args 0 [.ref 2, .int i, .int n]) [] M r M1) : (¬ ((0 ≤ i.toInt ∧ i.toInt < 3) ∧ (1 ≤ n.toInt ∧ n.toInt ≤ 160) ∧ n.toInt ≤ (iv M 127 1).toInt) ∧ r = some (.int (-1)) ∧ M1 = M) ∨ ((0 ≤ i.toInt ∧ i.toInt < 3) ∧ (1 ≤ n.toInt ∧ n.toInt ≤ 160) ∧ n.toInt ≤ (iv M 127 1).toInt ∧ LCO t f g M i.toInt.toNat r M1) := by
  replace h := eIload (mi := 120) (pc := 0) (len := 1) (i := 1) rfl rfl h
  replace h := eConst (mi := 120) (pc := 1) (len := 1) (v := 3) rfl h
  replace h := eCallP (mi := 120) (pc := 2) (len := 3) (j := 148) (as := [.int i, .int (3 : Int32)]) (rest := []) rfl (Or.inl rfl) (by decide) rfl rfl (fun _ _ _ _ g => bIn_en hS g) h
  rcases eIf (mi := 120) (pc := 5) (len := 3) (t := 31) rfl rfl h with ⟨c1, h⟩ | ⟨c1, h⟩
  · replace c1 : bIn i (3 : Int32) = false := mB_eq.1 c1
    replace h := eConst (mi := 120) (pc := 31) (len := 1) (v := (-1)) rfl h
    obtain ⟨e1, e2⟩ := eRetI (mi := 120) (pc := 32) (len := 1) rfl h
    refine Or.inl ⟨fun q => ?_, e1, e2⟩
    have q1 := q.1; have q2 := q.2.1; have q3 := q.2.2
    rw [bIn3_of q1] at c1
    cases c1
  · replace c1 : bIn i (3 : Int32) = true := mB_eq.2 c1
    replace h := eIload (mi := 120) (pc := 8) (len := 1) (i := 2) rfl rfl h
    replace h := eConst (mi := 120) (pc := 9) (len := 1) (v := 1) rfl h
    rcases eIc (mi := 120) (pc := 10) (len := 3) (t := 31) rfl rfl h with ⟨c2, h⟩ | ⟨c2, h⟩
    · replace c2 : n.toInt < 1 := mC_lt.1 c2
      replace h := eConst (mi := 120) (pc := 31) (len := 1) (v := (-1)) rfl h
      obtain ⟨e1, e2⟩ := eRetI (mi := 120) (pc := 32) (len := 1) rfl h
      refine Or.inl ⟨fun q => ?_, e1, e2⟩
      have q1 := q.1; have q2 := q.2.1; have q3 := q.2.2
      omega
    · replace c2 : ¬ n.toInt < 1 := mC_lt.2 c2
      replace h := eIload (mi := 120) (pc := 13) (len := 1) (i := 2) rfl rfl h
      replace h := eConst (mi := 120) (pc := 14) (len := 3) (v := 160) rfl h
      rcases eIc (mi := 120) (pc := 17) (len := 3) (t := 31) rfl rfl h with ⟨c3, h⟩ | ⟨c3, h⟩
      · replace c3 : 160 < n.toInt := mC_gt.1 c3
        replace h := eConst (mi := 120) (pc := 31) (len := 1) (v := (-1)) rfl h
        obtain ⟨e1, e2⟩ := eRetI (mi := 120) (pc := 32) (len := 1) rfl h
        refine Or.inl ⟨fun q => ?_, e1, e2⟩
        have q1 := q.1; have q2 := q.2.1; have q3 := q.2.2
        omega
      · replace c3 : ¬ 160 < n.toInt := mC_gt.2 c3
        replace h := eIload (mi := 120) (pc := 20) (len := 1) (i := 2) rfl rfl h
        replace h := eAload (mi := 120) (pc := 21) (len := 1) (i := 0) rfl rfl h
        replace h := eGetR (a := 2) (j := 1005) (g := 127) hS (by decide) (by decide) rfl rfl rfl (mi := 120) (pc := 22) (len := 3) rfl h
        replace h := eGetI (a := 127) (j := 801) hS (by decide) (by decide) rfl (mi := 120) (pc := 25) (len := 3) rfl h
        rcases eIc (mi := 120) (pc := 28) (len := 3) (t := 33) rfl rfl h with ⟨c4, h⟩ | ⟨c4, h⟩
        · replace c4 : ¬ (iv M 127 1).toInt < n.toInt := mC_le.1 c4
          replace h := eAload (mi := 120) (pc := 33) (len := 1) (i := 0) rfl rfl h
          replace h := eGetR (a := 2) (j := 1007) (g := 130) hS (by decide) (by decide) rfl rfl rfl (mi := 120) (pc := 34) (len := 3) rfl h
          replace h := eAload (mi := 120) (pc := 37) (len := 1) (i := 0) rfl rfl h
          replace h := eGetR (a := 2) (j := 1005) (g := 127) hS (by decide) (by decide) rfl rfl rfl (mi := 120) (pc := 38) (len := 3) rfl h
          replace h := eGetR (a := 127) (j := 800) (g := 128) hS (by decide) (by decide) rfl rfl rfl (mi := 120) (pc := 41) (len := 3) rfl h
          replace h := eIload (mi := 120) (pc := 44) (len := 1) (i := 2) rfl rfl h
          obtain ⟨r5, N6, g7, h⟩ := eCall (mi := 120) (pc := 45) (len := 3) (j := 71) (as := [.ref 130, .ref 128, .int n]) (rest := []) rfl (Or.inr (Or.inl rfl)) (by decide) rfl rfl h
          have g1 := bIn3_true2 c1
          have g2 : 1 ≤ n.toInt ∧ n.toInt ≤ 160 := by have q1 := c2; have q2 := c3; omega
          have g3 : n.toInt ≤ (iv M 127 1).toInt := by have q := c4; omega
          obtain ⟨S2, X2, x, c, er, hE, hc⟩ := read_ok (f := f) (g := g) hS (hX ⟨g2, g3⟩) g7
          rw [er] at h
          replace h := eIstore (mi := 120) (pc := 48) (len := 1) (i := 3) rfl (by decide) h
          replace h := eAload (mi := 120) (pc := 49) (len := 1) (i := 0) rfl rfl h
          replace h := eGetR (a := 2) (j := 1005) (g := 127) S2 (by decide) (by decide) rfl rfl rfl (mi := 120) (pc := 50) (len := 3) rfl h
          replace h := eConst (mi := 120) (pc := 53) (len := 1) (v := 0) rfl h
          obtain ⟨N8, eN8⟩ : ∃ X_, X_ = mPut N6 127 1 (.int (0 : Int32)) := ⟨_, rfl⟩
          replace h := ePutE (a := 127) (f := 1) (N := N8) rfl eN8 (mi := 120) (pc := 54) (len := 3) (j := 801) rfl h
          have hS9 : Sh N8 := by rw [eN8]; exact S2.put (by decide) (by decide) rfl
          have wT : ∀ c x, (c ≠ 127 ∨ x ≠ 1) → mSlot N8 c x = mSlot N6 c x := fun c x q => by rw [eN8]; exact mSlot_put_ne q
          have v127 : (iv N8 127 1).toInt = 0 := by rw [eN8, iv_put_eq S2 (by decide) (by decide) (by decide)]; rfl
          replace h := eIload (mi := 120) (pc := 57) (len := 1) (i := 3) rfl rfl h
          rcases eIf (mi := 120) (pc := 58) (len := 3) (t := 63) rfl rfl h with ⟨c10, h⟩ | ⟨c10, h⟩
          · replace c10 : x.toInt = 0 := mC_eq.1 c10
            have x0 : x.toInt = 0 := c10
            have cp : 0 < c := by
              apply Classical.byContradiction
              intro q
              have q : c = 0 := by omega
              subst q
              have := RdE.neg (N := n.toInt) (by omega) g2.2 (hX ⟨g2, g3⟩).tl hE
              omega
            obtain ⟨hc5, k, P, Q, P1, top, ec, hs, hq, he, hpg, htp⟩ := hc cp
            rw [x0, ec] at hE
            rw [ec] at hc5
            have R1 : ∀ k, k < 3 → mSlot N8 129 k = some (.ref (152 + 6 * k)) := fun k hk => by rw [wT 129 k (Or.inl (by decide)), X2 129 k (Or.inl (by decide))]; exact hR k hk
            have LF1 : LF N8 := fun k hk => by
              have w : ∀ i, mSlot N8 (152 + 6 * k) i = mSlot M (152 + 6 * k) i := fun i => by rw [wT _ i (Or.inl (by omega)), X2 _ i (Or.inr (by omega))]
              rw [w, w, w, w]
              exact hF k hk
            have fx : ∀ c j, (c < 130 ∨ 135 < c) → (c = 127 → j ≠ 1) → mSlot N8 c j = mSlot M c j := fun c j h1 h2 => by
              rw [wT c j (by by_cases q : c = 127; exact Or.inr (h2 q); exact Or.inl q)]
              exact X2 c j (by omega)
            have h1t : (iv N8 131 1).toInt = top := by rw [iv_sl (wT 131 1 (Or.inl (by decide))), htp]
            have h5 : (iv N8 131 5).toInt = (k : Int) + 1 := by rw [iv_sl (wT 131 5 (Or.inl (by decide))), hc5]; rfl
            have hpg2 : PGS t f g N8 P1.2.1 (k + 1) P1.1.2.2.1 top := fun j hj => by
              obtain ⟨A, B, E, sh, sk, a1, a2, a3, a4, a5⟩ := hpg j hj
              exact ⟨A, B, E, sh, sk, a1, a2, a3, a4.keep ⟨iv_sl (wT 133 j (Or.inl (by decide))), iv_sl (wT 134 j (Or.inl (by decide))), iv_sl (wT 135 j (Or.inl (by decide)))⟩ (fun i _ => iv_sl (wT 132 i (Or.inl (by decide)))) (fun _ _ => rfl), a5⟩
            refine Or.inr ⟨g1, g2, g3, ?_⟩
            have e3 : i.toInt.toNat = 0 ∨ i.toInt.toNat = 1 ∨ i.toInt.toNat = 2 := by omega
            rcases e3 with eki | eki | eki
            · skip
              replace h := eAload (mi := 120) (pc := 63) (len := 1) (i := 0) rfl rfl h
              replace h := eGetR (a := 2) (j := 1006) (g := 129) hS9 (by decide) (by decide) rfl rfl rfl (mi := 120) (pc := 64) (len := 3) rfl h
              replace h := eIload (mi := 120) (pc := 67) (len := 1) (i := 1) rfl rfl h
              obtain ⟨b61, h⟩ := eLwr (x := i) hS9 R1 (mi := 120) (pc := 68) (len := 1) rfl h
              rw [eki] at h
              replace h := eAload (mi := 120) (pc := 69) (len := 1) (i := 0) rfl rfl h
              replace h := eGetR (a := 2) (j := 1007) (g := 130) hS9 (by decide) (by decide) rfl rfl rfl (mi := 120) (pc := 70) (len := 3) rfl h
              replace h := eGetR (a := 130) (j := 500) (g := 131) hS9 (by decide) (by decide) rfl rfl rfl (mi := 120) (pc := 73) (len := 3) rfl h
              obtain ⟨r62, N63, g64, h⟩ := eCall (mi := 120) (pc := 76) (len := 3) (j := 59) (as := [.ref 152, .ref 131]) (rest := []) rfl (Or.inr (Or.inl rfl)) (by decide) rfl rfl h
              obtain ⟨q9, hc9⟩ := cpy_152 hS9 LF1 g64
              rw [q9] at h
              have R2 : ∀ k, k < 3 → mSlot N63 129 k = some (.ref (152 + 6 * k)) := fun k hk => by rw [hc9.2.1 129 k (by omega) (by omega)]; exact R1 k hk
              replace h := eAload (mi := 120) (pc := 79) (len := 1) (i := 0) rfl rfl h
              replace h := eGetR (a := 2) (j := 1006) (g := 129) hc9.1 (by decide) (by decide) rfl rfl rfl (mi := 120) (pc := 80) (len := 3) rfl h
              replace h := eIload (mi := 120) (pc := 83) (len := 1) (i := 1) rfl rfl h
              obtain ⟨b65, h⟩ := eLwr (x := i) hc9.1 R2 (mi := 120) (pc := 84) (len := 1) rfl h
              rw [eki] at h
              replace h := eGetI (a := 152) (j := 405) hc9.1 (by decide) (by decide) rfl (mi := 120) (pc := 85) (len := 3) rfl h
              obtain ⟨e1, e2⟩ := eRetI (mi := 120) (pc := 88) (len := 1) rfl h
              rw [e1, e2, eki]
              refine ⟨hc9.1, ?_, ?_, _, rfl, Or.inr ⟨k, P, Q, P1, top, N8, hE, ?_, hs, hq, he, hpg2, h5, h1t, hS9, fx, hc9⟩⟩
              · intro c j h1 h2 h3
                rw [hc9.2.1 c j (by omega) (by omega)]
                exact fx c j h2 h1
              · rw [iv_sl (hc9.2.1 127 1 (by omega) (by omega))]
                exact v127
              · rw [hc9.2.2.2.1]
                exact h5
            · skip
              replace h := eAload (mi := 120) (pc := 63) (len := 1) (i := 0) rfl rfl h
              replace h := eGetR (a := 2) (j := 1006) (g := 129) hS9 (by decide) (by decide) rfl rfl rfl (mi := 120) (pc := 64) (len := 3) rfl h
              replace h := eIload (mi := 120) (pc := 67) (len := 1) (i := 1) rfl rfl h
              obtain ⟨b111, h⟩ := eLwr (x := i) hS9 R1 (mi := 120) (pc := 68) (len := 1) rfl h
              rw [eki] at h
              replace h := eAload (mi := 120) (pc := 69) (len := 1) (i := 0) rfl rfl h
              replace h := eGetR (a := 2) (j := 1007) (g := 130) hS9 (by decide) (by decide) rfl rfl rfl (mi := 120) (pc := 70) (len := 3) rfl h
              replace h := eGetR (a := 130) (j := 500) (g := 131) hS9 (by decide) (by decide) rfl rfl rfl (mi := 120) (pc := 73) (len := 3) rfl h
              obtain ⟨r112, N113, g114, h⟩ := eCall (mi := 120) (pc := 76) (len := 3) (j := 59) (as := [.ref 158, .ref 131]) (rest := []) rfl (Or.inr (Or.inl rfl)) (by decide) rfl rfl h
              obtain ⟨q9, hc9⟩ := cpy_158 hS9 LF1 g114
              rw [q9] at h
              have R2 : ∀ k, k < 3 → mSlot N113 129 k = some (.ref (152 + 6 * k)) := fun k hk => by rw [hc9.2.1 129 k (by omega) (by omega)]; exact R1 k hk
              replace h := eAload (mi := 120) (pc := 79) (len := 1) (i := 0) rfl rfl h
              replace h := eGetR (a := 2) (j := 1006) (g := 129) hc9.1 (by decide) (by decide) rfl rfl rfl (mi := 120) (pc := 80) (len := 3) rfl h
              replace h := eIload (mi := 120) (pc := 83) (len := 1) (i := 1) rfl rfl h
              obtain ⟨b115, h⟩ := eLwr (x := i) hc9.1 R2 (mi := 120) (pc := 84) (len := 1) rfl h
              rw [eki] at h
              replace h := eGetI (a := 158) (j := 405) hc9.1 (by decide) (by decide) rfl (mi := 120) (pc := 85) (len := 3) rfl h
              obtain ⟨e1, e2⟩ := eRetI (mi := 120) (pc := 88) (len := 1) rfl h
              rw [e1, e2, eki]
              refine ⟨hc9.1, ?_, ?_, _, rfl, Or.inr ⟨k, P, Q, P1, top, N8, hE, ?_, hs, hq, he, hpg2, h5, h1t, hS9, fx, hc9⟩⟩
              · intro c j h1 h2 h3
                rw [hc9.2.1 c j (by omega) (by omega)]
                exact fx c j h2 h1
              · rw [iv_sl (hc9.2.1 127 1 (by omega) (by omega))]
                exact v127
              · rw [hc9.2.2.2.1]
                exact h5
            · skip
              replace h := eAload (mi := 120) (pc := 63) (len := 1) (i := 0) rfl rfl h
              replace h := eGetR (a := 2) (j := 1006) (g := 129) hS9 (by decide) (by decide) rfl rfl rfl (mi := 120) (pc := 64) (len := 3) rfl h
              replace h := eIload (mi := 120) (pc := 67) (len := 1) (i := 1) rfl rfl h
              obtain ⟨b161, h⟩ := eLwr (x := i) hS9 R1 (mi := 120) (pc := 68) (len := 1) rfl h
              rw [eki] at h
              replace h := eAload (mi := 120) (pc := 69) (len := 1) (i := 0) rfl rfl h
              replace h := eGetR (a := 2) (j := 1007) (g := 130) hS9 (by decide) (by decide) rfl rfl rfl (mi := 120) (pc := 70) (len := 3) rfl h
              replace h := eGetR (a := 130) (j := 500) (g := 131) hS9 (by decide) (by decide) rfl rfl rfl (mi := 120) (pc := 73) (len := 3) rfl h
              obtain ⟨r162, N163, g164, h⟩ := eCall (mi := 120) (pc := 76) (len := 3) (j := 59) (as := [.ref 164, .ref 131]) (rest := []) rfl (Or.inr (Or.inl rfl)) (by decide) rfl rfl h
              obtain ⟨q9, hc9⟩ := cpy_164 hS9 LF1 g164
              rw [q9] at h
              have R2 : ∀ k, k < 3 → mSlot N163 129 k = some (.ref (152 + 6 * k)) := fun k hk => by rw [hc9.2.1 129 k (by omega) (by omega)]; exact R1 k hk
              replace h := eAload (mi := 120) (pc := 79) (len := 1) (i := 0) rfl rfl h
              replace h := eGetR (a := 2) (j := 1006) (g := 129) hc9.1 (by decide) (by decide) rfl rfl rfl (mi := 120) (pc := 80) (len := 3) rfl h
              replace h := eIload (mi := 120) (pc := 83) (len := 1) (i := 1) rfl rfl h
              obtain ⟨b165, h⟩ := eLwr (x := i) hc9.1 R2 (mi := 120) (pc := 84) (len := 1) rfl h
              rw [eki] at h
              replace h := eGetI (a := 164) (j := 405) hc9.1 (by decide) (by decide) rfl (mi := 120) (pc := 85) (len := 3) rfl h
              obtain ⟨e1, e2⟩ := eRetI (mi := 120) (pc := 88) (len := 1) rfl h
              rw [e1, e2, eki]
              refine ⟨hc9.1, ?_, ?_, _, rfl, Or.inr ⟨k, P, Q, P1, top, N8, hE, ?_, hs, hq, he, hpg2, h5, h1t, hS9, fx, hc9⟩⟩
              · intro c j h1 h2 h3
                rw [hc9.2.1 c j (by omega) (by omega)]
                exact fx c j h2 h1
              · rw [iv_sl (hc9.2.1 127 1 (by omega) (by omega))]
                exact v127
              · rw [hc9.2.2.2.1]
                exact h5
          · replace c10 : ¬ x.toInt = 0 := mC_eq.2 c10
            replace h := eIload (mi := 120) (pc := 61) (len := 1) (i := 3) rfl rfl h
            obtain ⟨e1, e2⟩ := eRetI (mi := 120) (pc := 62) (len := 1) rfl h
            have nz : ¬ x.toInt = 0 := c10
            have c0 : c = 0 := by
              apply Classical.byContradiction
              intro q
              obtain ⟨kk, PP, _, ⟨_, b⟩ | ⟨_, _, _, _, _, _, ⟨_, _, b⟩ | ⟨_, b, _⟩⟩⟩ := hE
              · exact q b
              · exact q b
              · exact nz b
            subst c0
            rw [e1, e2]
            refine Or.inr ⟨g1, g2, g3, hS9, ?_, ?_, _, rfl, Or.inl ⟨hE, ?_⟩⟩
            · intro c i h1 h2 h3
              rw [wT c i (by by_cases q : c = 127; exact Or.inr (h1 q); exact Or.inl q)]
              exact X2 c i (by omega)
            · exact v127
            · intro c j hc
              rw [wT c j (Or.inl (by omega))]
              exact X2 c j (by omega)
        · replace c4 : (iv M 127 1).toInt < n.toInt := mC_le.2 c4
          replace h := eConst (mi := 120) (pc := 31) (len := 1) (v := (-1)) rfl h
          obtain ⟨e1, e2⟩ := eRetI (mi := 120) (pc := 32) (len := 1) rfl h
          refine Or.inl ⟨fun q => ?_, e1, e2⟩
          have q1 := q.1; have q2 := q.2.1; have q3 := q.2.2
          omega

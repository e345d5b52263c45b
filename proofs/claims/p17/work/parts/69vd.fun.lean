/-! the class's reader against the machine: numbers, factors, products, sums (printed by fn6.py) -/
theorem CB.pre {t : Int → Int} {c c' : CF} {M : Mem} (h : Rch t c c') (hb : CB t c' M) : CB t c M := by
  obtain ⟨x, h1, h2⟩ := hb
  exact ⟨x, h.tr h1, h2⟩
theorem CB.st {t : Int → Int} {c : CF} {M M' : Mem} (hb : CB t c M) (e : iv M' 130 5 = iv M 130 5) : CB t c M' := by
  obtain ⟨x, h1, h2, h3⟩ := hb
  exact ⟨x, h1, h2, by rw [e]; exact h3⟩
theorem pTop_eq {M M' : Mem} {P P' : PS} {sh : Int} (h : FR M P M' P' sh) (e : P'.1.2.2.2 = P.1.2.2.2) : pTop P' = pTop P := by
  unfold pTop
  rw [e]
  by_cases z : P.1.2.2.2 = 0
  · rw [if_pos z, if_pos z]
  · rw [if_neg z, if_neg z, h.2.1 _ (by omega)]
/-- what a reading method of sums does, held against the machine -/
def KS (j : Nat) (pre : PS → Prop) (ok : Int → Prop) (n : Nat) : Prop := ∀ (d : Nat) (M : Mem) (r : Option Value) (M1 : Mem) (t : Int → Int) (N sh z : Int) (b : Nat) (h : Int) (P : PS), Sh M → CT0 M t N → CR M P sh N z → b ≤ P.1.2.2.2 → pre P → En n d j 0 (lv_args 0 [.ref 130]) [] M r M1 → CQ M M1 ∧ CT0 M1 t N ∧ ((∃ P', r = some (.int 1) ∧ Rch t (0, b, h, P) (1, b, h, P') ∧ CR M1 P' sh N z ∧ FR M P M1 P' sh ∧ P'.1.2.1 = P.1.2.1 ∧ P'.1.2.2.2 = P.1.2.2.2 ∧ ok (t P'.1.1)) ∨ (r = some (.int 0) ∧ CB t (0, b, h, P) M1))
def KF (n : Nat) : Prop := KS 85 (fun _ => True) (fun _ => True) n
def KP (n : Nat) : Prop := KS 84 (fun P => ¬ (4 ≤ pTop P ∧ pTop P ≤ 6)) (fun c => ¬ 4 ≤ cSum c) n
def KU (n : Nat) : Prop := KS 83 (fun P => ¬ (2 ≤ pTop P ∧ pTop P ≤ 6)) (fun c => cSum c = -1) n
theorem step_any {c v : Int32} {n d : Nat} {M : Mem} {r : Option Value} {M1 : Mem} {t : Int → Int} {N : Int} (hS : Sh M) (hT : CT0 M t N) (h : En n d 60 0 (lv_args 0 [.ref 131, .int c, .int v]) [] M r M1) : (∃ x, r = some (.int x)) ∧ CQ M M1 ∧ CT0 M1 t N ∧ iv M1 130 5 = iv M 130 5 := by
  replace h := eAload (mi := 60) (pc := 0) (len := 1) (i := 0) rfl rfl h
  replace h := eGetI (a := 131) (j := 401) hS (by decide) (by decide) rfl (mi := 60) (pc := 1) (len := 3) rfl h
  replace h := eConst (mi := 60) (pc := 4) (len := 3) (v := 160) rfl h
  rcases eIc (mi := 60) (pc := 7) (len := 3) (t := 38) rfl rfl h with ⟨c1, h⟩ | ⟨c1, h⟩
  · replace c1 : ¬ (iv M 131 1).toInt < 160 := mC_ge.1 c1
    replace h := eAload (mi := 60) (pc := 38) (len := 1) (i := 0) rfl rfl h
    replace h := eGetI (a := 131) (j := 401) hS (by decide) (by decide) rfl (mi := 60) (pc := 39) (len := 3) rfl h
    replace h := eConst (mi := 60) (pc := 42) (len := 1) (v := 1) rfl h
    replace h := eSub (mi := 60) (pc := 43) (len := 1) rfl h
    obtain ⟨e1, e2⟩ := eRetI (mi := 60) (pc := 44) (len := 1) rfl h
    rw [e2]
    exact ⟨⟨_, e1⟩, CQ.rf hS, hT, rfl⟩
  · replace c1 : (iv M 131 1).toInt < 160 := mC_ge.2 c1
    replace h := eAload (mi := 60) (pc := 10) (len := 1) (i := 0) rfl rfl h
    replace h := eGetR (a := 131) (j := 400) (g := 132) hS (by decide) (by decide) rfl rfl rfl (mi := 60) (pc := 11) (len := 3) rfl h
    replace h := eAload (mi := 60) (pc := 14) (len := 1) (i := 0) rfl rfl h
    replace h := eGetI (a := 131) (j := 401) hS (by decide) (by decide) rfl (mi := 60) (pc := 15) (len := 3) rfl h
    replace h := eIload (mi := 60) (pc := 18) (len := 1) (i := 1) rfl rfl h
    replace h := eConst (mi := 60) (pc := 19) (len := 2) (v := 20) rfl h
    replace h := eShl (mi := 60) (pc := 21) (len := 1) rfl h
    replace h := eIload (mi := 60) (pc := 22) (len := 1) (i := 2) rfl rfl h
    replace h := eConst (mi := 60) (pc := 23) (len := 2) (v := 1048575) rfl h
    replace h := eAnd (mi := 60) (pc := 25) (len := 1) rfl h
    replace h := eOr (mi := 60) (pc := 26) (len := 1) rfl h
    obtain ⟨N3, eN3⟩ : ∃ X_, X_ = mPut M 132 (iv M 131 1).toInt.toNat (.int ((c <<< ((20 : Int32) &&& 31)) ||| (v &&& (1048575 : Int32)))) := ⟨_, rfl⟩
    obtain ⟨b2, h⟩ := eIast (x := (iv M 131 1)) (N := N3) hS (a := 132) (by decide) (by decide) eN3 (mi := 60) (pc := 27) (len := 1) rfl h
    have hS4 : Sh N3 := by rw [eN3]; exact hS.put (by decide) (by decide) rfl
    replace h := eAload (mi := 60) (pc := 28) (len := 1) (i := 0) rfl rfl h
    replace h := eDupR (mi := 60) (pc := 29) (len := 1) rfl h
    replace h := eGetI (a := 131) (j := 401) hS4 (by decide) (by decide) rfl (mi := 60) (pc := 30) (len := 3) rfl h
    replace h := eConst (mi := 60) (pc := 33) (len := 1) (v := 1) rfl h
    replace h := eAdd (mi := 60) (pc := 34) (len := 1) rfl h
    obtain ⟨N5, eN5⟩ : ∃ X_, X_ = mPut N3 131 1 (.int ((iv N3 131 1) + (1 : Int32))) := ⟨_, rfl⟩
    replace h := ePutE (a := 131) (f := 1) (N := N5) rfl eN5 (mi := 60) (pc := 35) (len := 3) (j := 401) rfl h
    have hS6 : Sh N5 := by rw [eN5]; exact hS4.put (by decide) (by decide) rfl
    replace h := eAload (mi := 60) (pc := 38) (len := 1) (i := 0) rfl rfl h
    replace h := eGetI (a := 131) (j := 401) hS6 (by decide) (by decide) rfl (mi := 60) (pc := 39) (len := 3) rfl h
    replace h := eConst (mi := 60) (pc := 42) (len := 1) (v := 1) rfl h
    replace h := eSub (mi := 60) (pc := 43) (len := 1) rfl h
    obtain ⟨e1, e2⟩ := eRetI (mi := 60) (pc := 44) (len := 1) rfl h
    have q1 : CQ M N3 := by rw [eN3]; exact CQ.put hS (Or.inr (Or.inr rfl))
    have q2 : CQ N3 N5 := by rw [eN5]; exact CQ.put q1.1 (Or.inr (Or.inl ⟨rfl, rfl⟩))
    have t1 : CT0 N3 t N := by rw [eN3]; exact hT.put hS (Or.inr (Or.inr rfl))
    have t2 : CT0 N5 t N := by rw [eN5]; exact t1.put q1.1 (Or.inr (Or.inl ⟨rfl, rfl⟩))
    rw [e2]
    exact ⟨⟨_, e1⟩, q1.tr q2, t2, by rw [eN5, iv_put_ne (Or.inl (by decide)), eN3, iv_put_ne (Or.inl (by decide))]⟩
theorem cSum_mul {c : Int} (h : 4 ≤ cSum c) : c = 42 ∨ c = 47 ∨ c = 37 := by
  apply Classical.byContradiction
  intro q
  unfold cSum at h
  by_cases a : c = 43
  · rw [if_pos a] at h
    omega
  · by_cases b : c = 45
    · rw [if_neg a, if_pos b] at h
      omega
    · rw [if_neg a, if_neg b, if_neg (by omega), if_neg (by omega), if_neg (by omega)] at h
      omega
theorem cSum_no {c : Int} (h : ¬ 4 ≤ cSum c) (h1 : ¬ c = 43) (h2 : ¬ c = 45) : cSum c = -1 := by
  unfold cSum at h ⊢
  rw [if_neg h1, if_neg h2] at h ⊢
  split
  · rename_i q; rw [if_pos q] at h; omega
  · rename_i q
    rw [if_neg q] at h
    split
    · rename_i q; rw [if_pos q] at h; omega
    · rename_i q
      rw [if_neg q] at h
      split
      · rename_i q; rw [if_pos q] at h; omega
      · rfl
theorem pTop_push {P : PS} {w : Int} (h : 0 ≤ w) : pTop (pAdv (pPush P (w * 1048576))) = w := by
  show (if P.1.2.2.2 + 1 = 0 then (-1 : Int) else pUp P.2.2 P.1.2.2.2 (w * 1048576) (P.1.2.2.2 + 1 - 1) / 1048576) = w
  rw [if_neg (by omega)]
  unfold pUp
  rw [if_pos (by omega)]
  omega
theorem pTop_pop {P Q : PS} {v : Int} (e : Q.1.2.2.2 = P.1.2.2.2 + 1) (h : ∀ k, k < P.1.2.2.2 → Q.2.2 k = P.2.2 k) : pTop (pPop (pEm Q v)) = pTop P := by
  show (if Q.1.2.2.2 - 1 = 0 then (-1 : Int) else Q.2.2 (Q.1.2.2.2 - 1 - 1) / 1048576) = (if P.1.2.2.2 = 0 then -1 else P.2.2 (P.1.2.2.2 - 1) / 1048576)
  rw [e, Nat.add_sub_cancel]
  by_cases z : P.1.2.2.2 = 0
  · rw [if_pos z, if_pos z]
  · rw [if_neg z, if_neg z, h _ (by omega)]
section
variable {t : Int → Int} {b : Nat} {h : Int} {P : PS}
theorem sA_mul (h1 : 4 ≤ pTop P ∧ pTop P ≤ 6) : sm t (1, b, h, P) = (1, b, h, pPop (pEm P (pTop P * 1048576))) := by
  show sA t b h P = _
  unfold sA
  rw [if_pos h1]
theorem sA_add (h1 : pTop P = 2 ∨ pTop P = 3) (h2 : cSum (t P.1.1) < 4) : sm t (1, b, h, P) = (1, b, h, pPop (pEm P (pTop P * 1048576))) := by
  show sA t b h P = _
  unfold sA
  rw [if_neg (by omega), if_pos ⟨h1, h2⟩]
theorem sA_push (h1 : ¬ (4 ≤ pTop P ∧ pTop P ≤ 6)) (h2 : (¬ (pTop P = 2 ∨ pTop P = 3) ∧ cSum (t P.1.1) ≠ -1) ∨ 4 ≤ cSum (t P.1.1)) : sm t (1, b, h, P) = (0, b, h, pAdv (pPush P (cSum (t P.1.1) * 1048576))) := by
  show sA t b h P = _
  unfold sA
  rw [if_neg h1, if_neg (by omega), if_pos (by omega)]
end
theorem i2c_lo {x : Int32} (h0 : 0 ≤ x.toInt) (h1 : x.toInt ≤ 255) : (x.toUInt32 % 65536).toInt32 = x := by
  have : ∀ k, k < 256 → ((Int32.ofNat k).toUInt32 % 65536).toInt32 = Int32.ofNat k := by decide +kernel
  have e := this x.toInt.toNat (by omega)
  rw [i32_natR h0] at e
  exact e
theorem stepV_op {ch : Int32} {c sh : Int} (h : cSum c = 2 ∨ cSum c = 3 ∨ cSum c = 4 ∨ cSum c = 5 ∨ cSum c = 6) (ec : ch.toInt = c) : (stepV (ch.toUInt32 % 65536).toInt32 0).toInt = encC sh (cSum c * 1048576) := by
  have hc : c = 43 ∨ c = 45 ∨ c = 42 ∨ c = 47 ∨ c = 37 := by
    apply Classical.byContradiction
    intro q
    unfold cSum at h
    rw [if_neg (by omega), if_neg (by omega), if_neg (by omega), if_neg (by omega), if_neg (by omega)] at h
    omega
  rw [i2c_lo (by omega) (by omega)]
  have e : ∀ k : Int32, ch.toInt = k.toInt → ch = k := fun k q => i32_eq.mpr q
  rcases hc with rfl | rfl | rfl | rfl | rfl
  · rw [e 43 ec]; rfl
  · rw [e 45 ec]; rfl
  · rw [e 42 ec]; rfl
  · rw [e 47 ec]; rfl
  · rw [e 37 ec]; rfl
theorem pro_lp : ∀ (n : Nat), (∀ m, m ≤ n → KF m) → ∀ (d : Nat) (L : MLoc) (M0 M : Mem) (r : Option Value) (M1 : Mem) (t : Int → Int) (N sh z : Int) (b : Nat) (h0 : Int) (P0 P : PS), mLd L 0 = some (.ref 130) → mLd L 1 = some (.int 1) → CQ M0 M → CT0 M t N → CR M P sh N z → FR M0 P0 M P sh → P.1.2.1 = P0.1.2.1 → P.1.2.2.2 = P0.1.2.2.2 → b ≤ P.1.2.2.2 → Rch t (0, b, h0, P0) (1, b, h0, P) → ¬ (4 ≤ pTop P ∧ pTop P ≤ 6) → (True) → En n d 84 5 L [] M r M1 → CQ M0 M1 ∧ CT0 M1 t N ∧ ((∃ P', r = some (.int 1) ∧ Rch t (0, b, h0, P0) (1, b, h0, P') ∧ CR M1 P' sh N z ∧ FR M0 P0 M1 P' sh ∧ P'.1.2.1 = P0.1.2.1 ∧ P'.1.2.2.2 = P0.1.2.2.2 ∧ ¬ 4 ≤ cSum (t P'.1.1)) ∨ (r = some (.int 0) ∧ CB t (0, b, h0, P0) M1)) := by
  intro n
  induction n with
  | zero => intro _ d L M0 M r M1 t N sh z b h0 P0 P _ _ _ _ _ _ _ _ _ _ _ _ h; exact (En.zero (mi := 84) (pc := 5) (len := 1) rfl h).elim
  | succ n ih =>
    intro hK d L M0 M r M1 t N sh z b h0 P0 P l0 l1 hQ hT hC hF eO eW hb hr ht hn h
    have hS := hQ.1
    have hX := hT.1
    replace h := eIloadS (mi := 84) (pc := 5) (len := 1) (i := 1) rfl l1 h
    have key : P.1.1 < N → 0 ≤ P.1.1 → (iv M 128 (iv M 130 3).toInt.toNat).toInt = t P.1.1 → (cSum (t P.1.1) = 4 ∨ cSum (t P.1.1) = 5 ∨ cSum (t P.1.1) = 6) → En n d 84 62 L [] M r M1 → CQ M0 M1 ∧ CT0 M1 t N ∧ ((∃ P', r = some (.int 1) ∧ Rch t (0, b, h0, P0) (1, b, h0, P') ∧ CR M1 P' sh N z ∧ FR M0 P0 M1 P' sh ∧ P'.1.2.1 = P0.1.2.1 ∧ P'.1.2.2.2 = P0.1.2.2.2 ∧ ¬ 4 ≤ cSum (t P'.1.1)) ∨ (r = some (.int 0) ∧ CB t (0, b, h0, P0) M1)) := by
      intro lt p0 ec ho h
      replace h := eAload (mi := 84) (pc := 62) (len := 1) (i := 0) rfl l0 h
      replace h := eGetX (a := 130) (j := 501) (b := 128) (i := 1) hT.1 rfl (mi := 84) (pc := 63) (len := 3) rfl h
      replace h := eAload (mi := 84) (pc := 66) (len := 1) (i := 0) rfl l0 h
      replace h := eGetI (a := 130) (j := 503) hS (by decide) (by decide) rfl (mi := 84) (pc := 67) (len := 3) rfl h
      obtain ⟨b1, h⟩ := eIald (x := (iv M 130 3)) hS (a := 128) (by decide) (by decide) rfl (mi := 84) (pc := 70) (len := 1) rfl h
      replace h := eI2c (mi := 84) (pc := 71) (len := 1) rfl h
      replace h := eIstore (mi := 84) (pc := 72) (len := 1) (i := 2) rfl (by decide) h
      replace h := eAload (mi := 84) (pc := 73) (len := 1) (i := 0) rfl (mLd_st1_ref (by decide) l0) h
      replace h := eDupR (mi := 84) (pc := 74) (len := 1) rfl h
      replace h := eGetI (a := 130) (j := 503) hS (by decide) (by decide) rfl (mi := 84) (pc := 75) (len := 3) rfl h
      replace h := eConst (mi := 84) (pc := 78) (len := 1) (v := 1) rfl h
      replace h := eAdd (mi := 84) (pc := 79) (len := 1) rfl h
      obtain ⟨N2, eN2⟩ : ∃ X_, X_ = mPut M 130 3 (.int ((iv M 130 3) + (1 : Int32))) := ⟨_, rfl⟩
      replace h := ePutE (a := 130) (f := 3) (N := N2) rfl eN2 (mi := 84) (pc := 80) (len := 3) (j := 503) rfl h
      have hS3 : Sh N2 := by rw [eN2]; exact hS.put (by decide) (by decide) rfl
      obtain ⟨N0, eN0⟩ : ∃ N0, N0 = N2 := ⟨_, rfl⟩
      have hA : CQ M N0 ∧ CT0 N0 t N ∧ CR N0 (pAdv (pPush P (cSum (t P.1.1) * 1048576))) sh N (z + 1) ∧ SM M N0 := by rw [eN0, eN2]; exact adv_ok hS hT hC (fun q => by have q : t P.1.1 = -1 := q; rw [q] at ho; exact absurd ho (by decide))
      rw [← eN0] at h
      have tp2 : pTop (pAdv (pPush P (cSum (t P.1.1) * 1048576))) = cSum (t P.1.1) := pTop_push (by omega)
      replace h := eAload (mi := 84) (pc := 83) (len := 1) (i := 0) rfl (mLd_st1_ref (by decide) l0) h
      obtain ⟨r4, N5, g6, h⟩ := eCall (mi := 84) (pc := 84) (len := 3) (j := 85) (as := [.ref 130]) (rest := []) rfl (Or.inr (Or.inl rfl)) (by decide) rfl rfl h
      obtain ⟨hQ3, hT3, hR3⟩ := hK n (Nat.le_succ n) _ _ _ _ t N sh (z + 1) b h0 (pAdv (pPush P (cSum (t P.1.1) * 1048576))) hA.1.1 hA.2.1 hA.2.2.1 (by show b ≤ P.1.2.2.2 + 1; omega) True.intro g6
      rcases hR3 with ⟨P3, er, hr3, hC3, hF3, eO3, eW3, hk3⟩ | ⟨er, hB3⟩
      · rw [er] at h
        replace h := eIstore (mi := 84) (pc := 87) (len := 1) (i := 1) rfl (by decide) h
        replace h := eAload (mi := 84) (pc := 88) (len := 1) (i := 0) rfl (mLd_st1_ref (by decide) (mLd_st1_ref (by decide) l0)) h
        replace h := eGetR (a := 130) (j := 500) (g := 131) hQ3.1 (by decide) (by decide) rfl rfl rfl (mi := 84) (pc := 89) (len := 3) rfl h
        replace h := eIload (mi := 84) (pc := 92) (len := 1) (i := 2) rfl (mLd_st1_int (by decide) mLd_st1_i) h
        replace h := eConst (mi := 84) (pc := 93) (len := 1) (v := 0) rfl h
        obtain ⟨r7, N8, g9, h⟩ := eCall (mi := 84) (pc := 94) (len := 3) (j := 60) (as := [.ref 131, .int (((iv M 128 (iv M 130 3).toInt.toNat)).toUInt32 % 65536).toInt32, .int (0 : Int32)]) (rest := []) rfl (Or.inr (Or.inl rfl)) (by decide) rfl rfl h
        have tp3 : pTop P3 = cSum (t P.1.1) := (pTop_eq hF3 eW3).trans tp2
        have ev : (stepV (((iv M 128 (iv M 130 3).toInt.toNat)).toUInt32 % 65536).toInt32 0).toInt = encC sh (pTop P3 * 1048576) := by rw [tp3]; exact stepV_op (ch := iv M 128 (iv M 130 3).toInt.toNat) (by omega) ec
        obtain ⟨l160, hQ4, hT4, hC4, hF4, ei4⟩ := emit_ok (z := z) hQ3.1 hT3 hC3 (by have := hC.2.2.2.1; omega) ev
        obtain ⟨q4, eM4⟩ := step_en hQ3.1 l160 g9
        rw [q4, eM4] at h
        replace h := ePopI (mi := 84) (pc := 97) (len := 1) rfl h
        replace h := eGoto (mi := 84) (pc := 98) (len := 3) (t := 5) rfl rfl h
        have W3 : P3.1.2.2.2 = P.1.2.2.2 + 1 := eW3
        have w3 : P3.2.2 P.1.2.2.2 = cSum (t P.1.1) * 1048576 := by rw [hF3.2.1 _ (show P.1.2.2.2 < P.1.2.2.2 + 1 by omega)]; show pUp P.2.2 P.1.2.2.2 _ P.1.2.2.2 = _; unfold pUp; rw [if_pos rfl]
        have hF2 : FR M0 P0 N0 (pAdv (pPush P (cSum (t P.1.1) * 1048576))) sh := hF.st hA.2.2.2 rfl rfl (by show P0.1.2.2.2 ≤ P.1.2.2.2 + 1; omega) (fun k hk => by show pUp P.2.2 P.1.2.2.2 _ k = P.2.2 k; unfold pUp; rw [if_neg (by omega)])
        have s0 : 0 ≤ sh := hC.2.2.2.1.1
        have hF5 := (hF2.tr s0 hF3).tr s0 hF4
        have hF6 : FR M0 P0 (stepM N5 (((iv M 128 (iv M 130 3).toInt.toNat)).toUInt32 % 65536).toInt32 0) (pPop (pEm P3 (pTop P3 * 1048576))) sh := hF5.st SM.rf rfl rfl (by show P0.1.2.2.2 ≤ P3.1.2.2.2 - 1; omega) (fun _ _ => rfl)
        have sA1 : sm t (1, b, h0, P) = (0, b, h0, pAdv (pPush P (cSum (t P.1.1) * 1048576))) := sA_push ht (by omega)
        have sA2 : sm t (1, b, h0, P3) = (1, b, h0, pPop (pEm P3 (pTop P3 * 1048576))) := sA_mul (by rw [tp3]; omega)
        have hr6 := hr.tr (Rch.go sA1 (hr3.tr (Rch.go sA2 Rch.rf)))
        have t6 : pTop (pPop (pEm P3 (pTop P3 * 1048576))) = pTop P := pTop_pop (by omega) (fun k hk => by rw [hF3.2.1 k (show k < P.1.2.2.2 + 1 by omega)]; show pUp P.2.2 P.1.2.2.2 _ k = P.2.2 k; unfold pUp; rw [if_neg (by omega)])
        refine ih (fun m hm => hK m (by omega)) _ _ M0 _ _ _ t N sh z b h0 P0 (pPop (pEm P3 (pTop P3 * 1048576))) (mLd_st1_ref (by decide) (mLd_st1_ref (by decide) l0)) mLd_st1_i (((hQ.tr hA.1).tr hQ3).tr hQ4) hT4 hC4 hF6 ?_ ?_ ?_ hr6 (by rw [t6]; exact ht) True.intro h
        · show P3.1.2.1 = P0.1.2.1
          have : P3.1.2.1 = P.1.2.1 := eO3
          omega
        · show P3.1.2.2.2 - 1 = P0.1.2.2.2
          omega
        · show b ≤ P3.1.2.2.2 - 1
          omega
      · rw [er] at h
        replace h := eIstore (mi := 84) (pc := 87) (len := 1) (i := 1) rfl (by decide) h
        replace h := eAload (mi := 84) (pc := 88) (len := 1) (i := 0) rfl (mLd_st1_ref (by decide) (mLd_st1_ref (by decide) l0)) h
        replace h := eGetR (a := 130) (j := 500) (g := 131) hQ3.1 (by decide) (by decide) rfl rfl rfl (mi := 84) (pc := 89) (len := 3) rfl h
        replace h := eIload (mi := 84) (pc := 92) (len := 1) (i := 2) rfl (mLd_st1_int (by decide) mLd_st1_i) h
        replace h := eConst (mi := 84) (pc := 93) (len := 1) (v := 0) rfl h
        obtain ⟨r10, N11, g12, h⟩ := eCall (mi := 84) (pc := 94) (len := 3) (j := 60) (as := [.ref 131, .int (((iv M 128 (iv M 130 3).toInt.toNat)).toUInt32 % 65536).toInt32, .int (0 : Int32)]) (rest := []) rfl (Or.inr (Or.inl rfl)) (by decide) rfl rfl h
        obtain ⟨⟨x4, q4⟩, hQ4, hT4, e54⟩ := step_any hQ3.1 hT3 g12
        rw [q4] at h
        replace h := ePopI (mi := 84) (pc := 97) (len := 1) rfl h
        replace h := eGoto (mi := 84) (pc := 98) (len := 3) (t := 5) rfl rfl h
        replace h := eIload (mi := 84) (pc := 5) (len := 1) (i := 1) rfl mLd_st1_i h
        rcases eIf (mi := 84) (pc := 6) (len := 3) (t := 101) rfl rfl h with ⟨c13, h⟩ | ⟨c13, h⟩
        · skip
          replace h := eIload (mi := 84) (pc := 101) (len := 1) (i := 1) rfl mLd_st1_i h
          obtain ⟨e1, e2⟩ := eRetI (mi := 84) (pc := 102) (len := 1) rfl h
          rw [e2]
          have sA1 : sm t (1, b, h0, P) = (0, b, h0, pAdv (pPush P (cSum (t P.1.1) * 1048576))) := sA_push ht (by omega)
          exact ⟨((hQ.tr hA.1).tr hQ3).tr hQ4, hT4, Or.inr ⟨e1, (CB.pre (hr.tr (Rch.go sA1 Rch.rf)) hB3).st e54⟩⟩
        · exact absurd c13 (by decide)
    rcases eIf (mi := 84) (pc := 6) (len := 3) (t := 101) rfl rfl h with ⟨c1, h⟩ | ⟨c1, h⟩
    · exact absurd c1 (by decide)
    · skip
      replace h := eAload (mi := 84) (pc := 9) (len := 1) (i := 0) rfl l0 h
      replace h := eGetI (a := 130) (j := 503) hS (by decide) (by decide) rfl (mi := 84) (pc := 10) (len := 3) rfl h
      replace h := eAload (mi := 84) (pc := 13) (len := 1) (i := 0) rfl l0 h
      replace h := eGetI (a := 130) (j := 502) hS (by decide) (by decide) rfl (mi := 84) (pc := 14) (len := 3) rfl h
      rcases eIc (mi := 84) (pc := 17) (len := 3) (t := 101) rfl rfl h with ⟨c2, h⟩ | ⟨c2, h⟩
      · replace c2 : ¬ (iv M 130 3).toInt < (iv M 130 2).toInt := mC_ge.1 c2
        replace h := eIload (mi := 84) (pc := 101) (len := 1) (i := 1) rfl l1 h
        obtain ⟨e1, e2⟩ := eRetI (mi := 84) (pc := 102) (len := 1) rfl h
        rw [e2]
        have q : t P.1.1 = -1 := hT.2.2.2.2.1 _ (by rw [hC.1, hT.2.1] at c2; omega)
        exact ⟨hQ, hT, Or.inl ⟨P, e1, hr, hC, hF, eO, eW, by rw [q]; decide⟩⟩
      · replace c2 : (iv M 130 3).toInt < (iv M 130 2).toInt := mC_ge.2 c2
        replace h := eAload (mi := 84) (pc := 20) (len := 1) (i := 0) rfl l0 h
        replace h := eGetX (a := 130) (j := 501) (b := 128) (i := 1) hT.1 rfl (mi := 84) (pc := 21) (len := 3) rfl h
        replace h := eAload (mi := 84) (pc := 24) (len := 1) (i := 0) rfl l0 h
        replace h := eGetI (a := 130) (j := 503) hS (by decide) (by decide) rfl (mi := 84) (pc := 25) (len := 3) rfl h
        obtain ⟨b3, h⟩ := eIald (x := (iv M 130 3)) hS (a := 128) (by decide) (by decide) rfl (mi := 84) (pc := 28) (len := 1) rfl h
        replace h := eConst (mi := 84) (pc := 29) (len := 2) (v := 42) rfl h
        rcases eIc (mi := 84) (pc := 31) (len := 3) (t := 62) rfl rfl h with ⟨c4, h⟩ | ⟨c4, h⟩
        · replace c4 : (iv M 128 (iv M 130 3).toInt.toNat).toInt = 42 := mC_eq.1 c4
          have lt : P.1.1 < N := by rw [hC.1, hT.2.1] at c2; exact c2
          have p0 : 0 ≤ P.1.1 := by have := hC.2.2.2; omega
          have ec : (iv M 128 (iv M 130 3).toInt.toNat).toInt = t P.1.1 := by rw [hC.1, ← hT.2.2.2.1 _ (by omega)]; congr 1; omega
          rw [ec] at c4
          exact key lt p0 ec (by rw [c4]; decide) h
        · replace c4 : ¬ (iv M 128 (iv M 130 3).toInt.toNat).toInt = 42 := mC_eq.2 c4
          replace h := eAload (mi := 84) (pc := 34) (len := 1) (i := 0) rfl l0 h
          replace h := eGetX (a := 130) (j := 501) (b := 128) (i := 1) hT.1 rfl (mi := 84) (pc := 35) (len := 3) rfl h
          replace h := eAload (mi := 84) (pc := 38) (len := 1) (i := 0) rfl l0 h
          replace h := eGetI (a := 130) (j := 503) hS (by decide) (by decide) rfl (mi := 84) (pc := 39) (len := 3) rfl h
          obtain ⟨b5, h⟩ := eIald (x := (iv M 130 3)) hS (a := 128) (by decide) (by decide) rfl (mi := 84) (pc := 42) (len := 1) rfl h
          replace h := eConst (mi := 84) (pc := 43) (len := 2) (v := 47) rfl h
          rcases eIc (mi := 84) (pc := 45) (len := 3) (t := 62) rfl rfl h with ⟨c6, h⟩ | ⟨c6, h⟩
          · replace c6 : (iv M 128 (iv M 130 3).toInt.toNat).toInt = 47 := mC_eq.1 c6
            have lt : P.1.1 < N := by rw [hC.1, hT.2.1] at c2; exact c2
            have p0 : 0 ≤ P.1.1 := by have := hC.2.2.2; omega
            have ec : (iv M 128 (iv M 130 3).toInt.toNat).toInt = t P.1.1 := by rw [hC.1, ← hT.2.2.2.1 _ (by omega)]; congr 1; omega
            rw [ec] at c6
            exact key lt p0 ec (by rw [c6]; decide) h
          · replace c6 : ¬ (iv M 128 (iv M 130 3).toInt.toNat).toInt = 47 := mC_eq.2 c6
            replace h := eAload (mi := 84) (pc := 48) (len := 1) (i := 0) rfl l0 h
            replace h := eGetX (a := 130) (j := 501) (b := 128) (i := 1) hT.1 rfl (mi := 84) (pc := 49) (len := 3) rfl h
            replace h := eAload (mi := 84) (pc := 52) (len := 1) (i := 0) rfl l0 h
            replace h := eGetI (a := 130) (j := 503) hS (by decide) (by decide) rfl (mi := 84) (pc := 53) (len := 3) rfl h
            obtain ⟨b7, h⟩ := eIald (x := (iv M 130 3)) hS (a := 128) (by decide) (by decide) rfl (mi := 84) (pc := 56) (len := 1) rfl h
            replace h := eConst (mi := 84) (pc := 57) (len := 2) (v := 37) rfl h
            rcases eIc (mi := 84) (pc := 59) (len := 3) (t := 101) rfl rfl h with ⟨c8, h⟩ | ⟨c8, h⟩
            · replace c8 : ¬ (iv M 128 (iv M 130 3).toInt.toNat).toInt = 37 := mC_ne.1 c8
              replace h := eIload (mi := 84) (pc := 101) (len := 1) (i := 1) rfl l1 h
              obtain ⟨e1, e2⟩ := eRetI (mi := 84) (pc := 102) (len := 1) rfl h
              rw [e2]
              have lt : P.1.1 < N := by rw [hC.1, hT.2.1] at c2; exact c2
              have p0 : 0 ≤ P.1.1 := by have := hC.2.2.2; omega
              have ec : (iv M 128 (iv M 130 3).toInt.toNat).toInt = t P.1.1 := by rw [hC.1, ← hT.2.2.2.1 _ (by omega)]; congr 1; omega
              rw [ec] at c4 c6 c8
              exact ⟨hQ, hT, Or.inl ⟨P, e1, hr, hC, hF, eO, eW, fun c4 => by rcases cSum_mul c4 with q | q | q <;> omega⟩⟩
            · replace c8 : (iv M 128 (iv M 130 3).toInt.toNat).toInt = 37 := mC_ne.2 c8
              have lt : P.1.1 < N := by rw [hC.1, hT.2.1] at c2; exact c2
              have p0 : 0 ≤ P.1.1 := by have := hC.2.2.2; omega
              have ec : (iv M 128 (iv M 130 3).toInt.toNat).toInt = t P.1.1 := by rw [hC.1, ← hT.2.2.2.1 _ (by omega)]; congr 1; omega
              rw [ec] at c8
              exact key lt p0 ec (by rw [c8]; decide) h
theorem sum_lp : ∀ (n : Nat), (∀ m, m ≤ n → KP m) → ∀ (d : Nat) (L : MLoc) (M0 M : Mem) (r : Option Value) (M1 : Mem) (t : Int → Int) (N sh z : Int) (b : Nat) (h0 : Int) (P0 P : PS), mLd L 0 = some (.ref 130) → mLd L 1 = some (.int 1) → CQ M0 M → CT0 M t N → CR M P sh N z → FR M0 P0 M P sh → P.1.2.1 = P0.1.2.1 → P.1.2.2.2 = P0.1.2.2.2 → b ≤ P.1.2.2.2 → Rch t (0, b, h0, P0) (1, b, h0, P) → ¬ (2 ≤ pTop P ∧ pTop P ≤ 6) → (¬ 4 ≤ cSum (t P.1.1)) → En n d 83 5 L [] M r M1 → CQ M0 M1 ∧ CT0 M1 t N ∧ ((∃ P', r = some (.int 1) ∧ Rch t (0, b, h0, P0) (1, b, h0, P') ∧ CR M1 P' sh N z ∧ FR M0 P0 M1 P' sh ∧ P'.1.2.1 = P0.1.2.1 ∧ P'.1.2.2.2 = P0.1.2.2.2 ∧ cSum (t P'.1.1) = -1) ∨ (r = some (.int 0) ∧ CB t (0, b, h0, P0) M1)) := by
  intro n
  induction n with
  | zero => intro _ d L M0 M r M1 t N sh z b h0 P0 P _ _ _ _ _ _ _ _ _ _ _ _ h; exact (En.zero (mi := 83) (pc := 5) (len := 1) rfl h).elim
  | succ n ih =>
    intro hK d L M0 M r M1 t N sh z b h0 P0 P l0 l1 hQ hT hC hF eO eW hb hr ht hn h
    have hS := hQ.1
    have hX := hT.1
    replace h := eIloadS (mi := 83) (pc := 5) (len := 1) (i := 1) rfl l1 h
    have key : P.1.1 < N → 0 ≤ P.1.1 → (iv M 128 (iv M 130 3).toInt.toNat).toInt = t P.1.1 → (cSum (t P.1.1) = 2 ∨ cSum (t P.1.1) = 3) → En n d 83 48 L [] M r M1 → CQ M0 M1 ∧ CT0 M1 t N ∧ ((∃ P', r = some (.int 1) ∧ Rch t (0, b, h0, P0) (1, b, h0, P') ∧ CR M1 P' sh N z ∧ FR M0 P0 M1 P' sh ∧ P'.1.2.1 = P0.1.2.1 ∧ P'.1.2.2.2 = P0.1.2.2.2 ∧ cSum (t P'.1.1) = -1) ∨ (r = some (.int 0) ∧ CB t (0, b, h0, P0) M1)) := by
      intro lt p0 ec ho h
      replace h := eAload (mi := 83) (pc := 48) (len := 1) (i := 0) rfl l0 h
      replace h := eGetX (a := 130) (j := 501) (b := 128) (i := 1) hT.1 rfl (mi := 83) (pc := 49) (len := 3) rfl h
      replace h := eAload (mi := 83) (pc := 52) (len := 1) (i := 0) rfl l0 h
      replace h := eGetI (a := 130) (j := 503) hS (by decide) (by decide) rfl (mi := 83) (pc := 53) (len := 3) rfl h
      obtain ⟨b1, h⟩ := eIald (x := (iv M 130 3)) hS (a := 128) (by decide) (by decide) rfl (mi := 83) (pc := 56) (len := 1) rfl h
      replace h := eI2c (mi := 83) (pc := 57) (len := 1) rfl h
      replace h := eIstore (mi := 83) (pc := 58) (len := 1) (i := 2) rfl (by decide) h
      replace h := eAload (mi := 83) (pc := 59) (len := 1) (i := 0) rfl (mLd_st1_ref (by decide) l0) h
      replace h := eDupR (mi := 83) (pc := 60) (len := 1) rfl h
      replace h := eGetI (a := 130) (j := 503) hS (by decide) (by decide) rfl (mi := 83) (pc := 61) (len := 3) rfl h
      replace h := eConst (mi := 83) (pc := 64) (len := 1) (v := 1) rfl h
      replace h := eAdd (mi := 83) (pc := 65) (len := 1) rfl h
      obtain ⟨N2, eN2⟩ : ∃ X_, X_ = mPut M 130 3 (.int ((iv M 130 3) + (1 : Int32))) := ⟨_, rfl⟩
      replace h := ePutE (a := 130) (f := 3) (N := N2) rfl eN2 (mi := 83) (pc := 66) (len := 3) (j := 503) rfl h
      have hS3 : Sh N2 := by rw [eN2]; exact hS.put (by decide) (by decide) rfl
      obtain ⟨N0, eN0⟩ : ∃ N0, N0 = N2 := ⟨_, rfl⟩
      have hA : CQ M N0 ∧ CT0 N0 t N ∧ CR N0 (pAdv (pPush P (cSum (t P.1.1) * 1048576))) sh N (z + 1) ∧ SM M N0 := by rw [eN0, eN2]; exact adv_ok hS hT hC (fun q => by have q : t P.1.1 = -1 := q; rw [q] at ho; exact absurd ho (by decide))
      rw [← eN0] at h
      have tp2 : pTop (pAdv (pPush P (cSum (t P.1.1) * 1048576))) = cSum (t P.1.1) := pTop_push (by omega)
      replace h := eAload (mi := 83) (pc := 69) (len := 1) (i := 0) rfl (mLd_st1_ref (by decide) l0) h
      obtain ⟨r4, N5, g6, h⟩ := eCall (mi := 83) (pc := 70) (len := 3) (j := 84) (as := [.ref 130]) (rest := []) rfl (Or.inr (Or.inl rfl)) (by decide) rfl rfl h
      obtain ⟨hQ3, hT3, hR3⟩ := hK n (Nat.le_succ n) _ _ _ _ t N sh (z + 1) b h0 (pAdv (pPush P (cSum (t P.1.1) * 1048576))) hA.1.1 hA.2.1 hA.2.2.1 (by show b ≤ P.1.2.2.2 + 1; omega) (by show ¬ (4 ≤ pTop _ ∧ pTop _ ≤ 6); rw [tp2]; omega) g6
      rcases hR3 with ⟨P3, er, hr3, hC3, hF3, eO3, eW3, hk3⟩ | ⟨er, hB3⟩
      · rw [er] at h
        replace h := eIstore (mi := 83) (pc := 73) (len := 1) (i := 1) rfl (by decide) h
        replace h := eAload (mi := 83) (pc := 74) (len := 1) (i := 0) rfl (mLd_st1_ref (by decide) (mLd_st1_ref (by decide) l0)) h
        replace h := eGetR (a := 130) (j := 500) (g := 131) hQ3.1 (by decide) (by decide) rfl rfl rfl (mi := 83) (pc := 75) (len := 3) rfl h
        replace h := eIload (mi := 83) (pc := 78) (len := 1) (i := 2) rfl (mLd_st1_int (by decide) mLd_st1_i) h
        replace h := eConst (mi := 83) (pc := 79) (len := 1) (v := 0) rfl h
        obtain ⟨r7, N8, g9, h⟩ := eCall (mi := 83) (pc := 80) (len := 3) (j := 60) (as := [.ref 131, .int (((iv M 128 (iv M 130 3).toInt.toNat)).toUInt32 % 65536).toInt32, .int (0 : Int32)]) (rest := []) rfl (Or.inr (Or.inl rfl)) (by decide) rfl rfl h
        have tp3 : pTop P3 = cSum (t P.1.1) := (pTop_eq hF3 eW3).trans tp2
        have ev : (stepV (((iv M 128 (iv M 130 3).toInt.toNat)).toUInt32 % 65536).toInt32 0).toInt = encC sh (pTop P3 * 1048576) := by rw [tp3]; exact stepV_op (ch := iv M 128 (iv M 130 3).toInt.toNat) (by omega) ec
        obtain ⟨l160, hQ4, hT4, hC4, hF4, ei4⟩ := emit_ok (z := z) hQ3.1 hT3 hC3 (by have := hC.2.2.2.1; omega) ev
        obtain ⟨q4, eM4⟩ := step_en hQ3.1 l160 g9
        rw [q4, eM4] at h
        replace h := ePopI (mi := 83) (pc := 83) (len := 1) rfl h
        replace h := eGoto (mi := 83) (pc := 84) (len := 3) (t := 5) rfl rfl h
        have W3 : P3.1.2.2.2 = P.1.2.2.2 + 1 := eW3
        have w3 : P3.2.2 P.1.2.2.2 = cSum (t P.1.1) * 1048576 := by rw [hF3.2.1 _ (show P.1.2.2.2 < P.1.2.2.2 + 1 by omega)]; show pUp P.2.2 P.1.2.2.2 _ P.1.2.2.2 = _; unfold pUp; rw [if_pos rfl]
        have hF2 : FR M0 P0 N0 (pAdv (pPush P (cSum (t P.1.1) * 1048576))) sh := hF.st hA.2.2.2 rfl rfl (by show P0.1.2.2.2 ≤ P.1.2.2.2 + 1; omega) (fun k hk => by show pUp P.2.2 P.1.2.2.2 _ k = P.2.2 k; unfold pUp; rw [if_neg (by omega)])
        have s0 : 0 ≤ sh := hC.2.2.2.1.1
        have hF5 := (hF2.tr s0 hF3).tr s0 hF4
        have hF6 : FR M0 P0 (stepM N5 (((iv M 128 (iv M 130 3).toInt.toNat)).toUInt32 % 65536).toInt32 0) (pPop (pEm P3 (pTop P3 * 1048576))) sh := hF5.st SM.rf rfl rfl (by show P0.1.2.2.2 ≤ P3.1.2.2.2 - 1; omega) (fun _ _ => rfl)
        have sA1 : sm t (1, b, h0, P) = (0, b, h0, pAdv (pPush P (cSum (t P.1.1) * 1048576))) := sA_push (by omega) (by omega)
        have sA2 : sm t (1, b, h0, P3) = (1, b, h0, pPop (pEm P3 (pTop P3 * 1048576))) := sA_add (by rw [tp3]; omega) (by omega)
        have hr6 := hr.tr (Rch.go sA1 (hr3.tr (Rch.go sA2 Rch.rf)))
        have t6 : pTop (pPop (pEm P3 (pTop P3 * 1048576))) = pTop P := pTop_pop (by omega) (fun k hk => by rw [hF3.2.1 k (show k < P.1.2.2.2 + 1 by omega)]; show pUp P.2.2 P.1.2.2.2 _ k = P.2.2 k; unfold pUp; rw [if_neg (by omega)])
        refine ih (fun m hm => hK m (by omega)) _ _ M0 _ _ _ t N sh z b h0 P0 (pPop (pEm P3 (pTop P3 * 1048576))) (mLd_st1_ref (by decide) (mLd_st1_ref (by decide) l0)) mLd_st1_i (((hQ.tr hA.1).tr hQ3).tr hQ4) hT4 hC4 hF6 ?_ ?_ ?_ hr6 (by rw [t6]; exact ht) hk3 h
        · show P3.1.2.1 = P0.1.2.1
          have : P3.1.2.1 = P.1.2.1 := eO3
          omega
        · show P3.1.2.2.2 - 1 = P0.1.2.2.2
          omega
        · show b ≤ P3.1.2.2.2 - 1
          omega
      · rw [er] at h
        replace h := eIstore (mi := 83) (pc := 73) (len := 1) (i := 1) rfl (by decide) h
        replace h := eAload (mi := 83) (pc := 74) (len := 1) (i := 0) rfl (mLd_st1_ref (by decide) (mLd_st1_ref (by decide) l0)) h
        replace h := eGetR (a := 130) (j := 500) (g := 131) hQ3.1 (by decide) (by decide) rfl rfl rfl (mi := 83) (pc := 75) (len := 3) rfl h
        replace h := eIload (mi := 83) (pc := 78) (len := 1) (i := 2) rfl (mLd_st1_int (by decide) mLd_st1_i) h
        replace h := eConst (mi := 83) (pc := 79) (len := 1) (v := 0) rfl h
        obtain ⟨r10, N11, g12, h⟩ := eCall (mi := 83) (pc := 80) (len := 3) (j := 60) (as := [.ref 131, .int (((iv M 128 (iv M 130 3).toInt.toNat)).toUInt32 % 65536).toInt32, .int (0 : Int32)]) (rest := []) rfl (Or.inr (Or.inl rfl)) (by decide) rfl rfl h
        obtain ⟨⟨x4, q4⟩, hQ4, hT4, e54⟩ := step_any hQ3.1 hT3 g12
        rw [q4] at h
        replace h := ePopI (mi := 83) (pc := 83) (len := 1) rfl h
        replace h := eGoto (mi := 83) (pc := 84) (len := 3) (t := 5) rfl rfl h
        replace h := eIload (mi := 83) (pc := 5) (len := 1) (i := 1) rfl mLd_st1_i h
        rcases eIf (mi := 83) (pc := 6) (len := 3) (t := 87) rfl rfl h with ⟨c13, h⟩ | ⟨c13, h⟩
        · skip
          replace h := eIload (mi := 83) (pc := 87) (len := 1) (i := 1) rfl mLd_st1_i h
          obtain ⟨e1, e2⟩ := eRetI (mi := 83) (pc := 88) (len := 1) rfl h
          rw [e2]
          have sA1 : sm t (1, b, h0, P) = (0, b, h0, pAdv (pPush P (cSum (t P.1.1) * 1048576))) := sA_push (by omega) (by omega)
          exact ⟨((hQ.tr hA.1).tr hQ3).tr hQ4, hT4, Or.inr ⟨e1, (CB.pre (hr.tr (Rch.go sA1 Rch.rf)) hB3).st e54⟩⟩
        · exact absurd c13 (by decide)
    rcases eIf (mi := 83) (pc := 6) (len := 3) (t := 87) rfl rfl h with ⟨c1, h⟩ | ⟨c1, h⟩
    · exact absurd c1 (by decide)
    · skip
      replace h := eAload (mi := 83) (pc := 9) (len := 1) (i := 0) rfl l0 h
      replace h := eGetI (a := 130) (j := 503) hS (by decide) (by decide) rfl (mi := 83) (pc := 10) (len := 3) rfl h
      replace h := eAload (mi := 83) (pc := 13) (len := 1) (i := 0) rfl l0 h
      replace h := eGetI (a := 130) (j := 502) hS (by decide) (by decide) rfl (mi := 83) (pc := 14) (len := 3) rfl h
      rcases eIc (mi := 83) (pc := 17) (len := 3) (t := 87) rfl rfl h with ⟨c2, h⟩ | ⟨c2, h⟩
      · replace c2 : ¬ (iv M 130 3).toInt < (iv M 130 2).toInt := mC_ge.1 c2
        replace h := eIload (mi := 83) (pc := 87) (len := 1) (i := 1) rfl l1 h
        obtain ⟨e1, e2⟩ := eRetI (mi := 83) (pc := 88) (len := 1) rfl h
        rw [e2]
        have q : t P.1.1 = -1 := hT.2.2.2.2.1 _ (by rw [hC.1, hT.2.1] at c2; omega)
        exact ⟨hQ, hT, Or.inl ⟨P, e1, hr, hC, hF, eO, eW, by rw [q]; decide⟩⟩
      · replace c2 : (iv M 130 3).toInt < (iv M 130 2).toInt := mC_ge.2 c2
        replace h := eAload (mi := 83) (pc := 20) (len := 1) (i := 0) rfl l0 h
        replace h := eGetX (a := 130) (j := 501) (b := 128) (i := 1) hT.1 rfl (mi := 83) (pc := 21) (len := 3) rfl h
        replace h := eAload (mi := 83) (pc := 24) (len := 1) (i := 0) rfl l0 h
        replace h := eGetI (a := 130) (j := 503) hS (by decide) (by decide) rfl (mi := 83) (pc := 25) (len := 3) rfl h
        obtain ⟨b3, h⟩ := eIald (x := (iv M 130 3)) hS (a := 128) (by decide) (by decide) rfl (mi := 83) (pc := 28) (len := 1) rfl h
        replace h := eConst (mi := 83) (pc := 29) (len := 2) (v := 43) rfl h
        rcases eIc (mi := 83) (pc := 31) (len := 3) (t := 48) rfl rfl h with ⟨c4, h⟩ | ⟨c4, h⟩
        · replace c4 : (iv M 128 (iv M 130 3).toInt.toNat).toInt = 43 := mC_eq.1 c4
          have lt : P.1.1 < N := by rw [hC.1, hT.2.1] at c2; exact c2
          have p0 : 0 ≤ P.1.1 := by have := hC.2.2.2; omega
          have ec : (iv M 128 (iv M 130 3).toInt.toNat).toInt = t P.1.1 := by rw [hC.1, ← hT.2.2.2.1 _ (by omega)]; congr 1; omega
          rw [ec] at c4
          exact key lt p0 ec (by rw [c4]; decide) h
        · replace c4 : ¬ (iv M 128 (iv M 130 3).toInt.toNat).toInt = 43 := mC_eq.2 c4
          replace h := eAload (mi := 83) (pc := 34) (len := 1) (i := 0) rfl l0 h
          replace h := eGetX (a := 130) (j := 501) (b := 128) (i := 1) hT.1 rfl (mi := 83) (pc := 35) (len := 3) rfl h
          replace h := eAload (mi := 83) (pc := 38) (len := 1) (i := 0) rfl l0 h
          replace h := eGetI (a := 130) (j := 503) hS (by decide) (by decide) rfl (mi := 83) (pc := 39) (len := 3) rfl h
          obtain ⟨b5, h⟩ := eIald (x := (iv M 130 3)) hS (a := 128) (by decide) (by decide) rfl (mi := 83) (pc := 42) (len := 1) rfl h
          replace h := eConst (mi := 83) (pc := 43) (len := 2) (v := 45) rfl h
          rcases eIc (mi := 83) (pc := 45) (len := 3) (t := 87) rfl rfl h with ⟨c6, h⟩ | ⟨c6, h⟩
          · replace c6 : ¬ (iv M 128 (iv M 130 3).toInt.toNat).toInt = 45 := mC_ne.1 c6
            replace h := eIload (mi := 83) (pc := 87) (len := 1) (i := 1) rfl l1 h
            obtain ⟨e1, e2⟩ := eRetI (mi := 83) (pc := 88) (len := 1) rfl h
            rw [e2]
            have lt : P.1.1 < N := by rw [hC.1, hT.2.1] at c2; exact c2
            have p0 : 0 ≤ P.1.1 := by have := hC.2.2.2; omega
            have ec : (iv M 128 (iv M 130 3).toInt.toNat).toInt = t P.1.1 := by rw [hC.1, ← hT.2.2.2.1 _ (by omega)]; congr 1; omega
            rw [ec] at c4 c6
            exact ⟨hQ, hT, Or.inl ⟨P, e1, hr, hC, hF, eO, eW, cSum_no hn (by omega) (by omega)⟩⟩
          · replace c6 : (iv M 128 (iv M 130 3).toInt.toNat).toInt = 45 := mC_ne.2 c6
            have lt : P.1.1 < N := by rw [hC.1, hT.2.1] at c2; exact c2
            have p0 : 0 ≤ P.1.1 := by have := hC.2.2.2; omega
            have ec : (iv M 128 (iv M 130 3).toInt.toNat).toInt = t P.1.1 := by rw [hC.1, ← hT.2.2.2.1 _ (by omega)]; congr 1; omega
            rw [ec] at c6
            exact key lt p0 ec (by rw [c6]; decide) h

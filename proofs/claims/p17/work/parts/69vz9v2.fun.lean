/-! a chain is walked: the reference (printed by fn37.py) -/
theorem ord_new {dy : Nat → Int} {W pl : Nat} {P Q : Nat → Int32} (h : knP dy W (fun k => (P k).toInt.toNat)) (hp : pl ≤ W) (o1 : ∀ k, k < pl → Q k = P k) (o2 : (Q pl).toInt = (W : Int)) (o3 : ∀ k, pl < k → k ≤ W → Q k = P (k - 1)) (h1 : pl = 0 ∨ dy (P (pl - 1)).toInt.toNat ≤ dy W) (h2 : ∀ k, pl ≤ k → k < W → dy W < dy (P k).toInt.toNat) : knP dy (W + 1) (fun k => (Q k).toInt.toNat) := by
  have p1 : ∀ k, k < pl → dy (P k).toInt.toNat ≤ dy W := fun k hk => by
    rcases h1 with q | q
    · omega
    · by_cases c : k = pl - 1
      · rw [c]
        exact q
      · have w := h.2.2 k (pl - 1) (by omega) (by omega)
        have w : dy (P k).toInt.toNat < dy (P (pl - 1)).toInt.toNat ∨ (dy (P k).toInt.toNat = dy (P (pl - 1)).toInt.toNat ∧ _) := w
        omega
  have r := knP_new (pl := pl) h hp p1 (fun k k1 k2 => h2 k k1 k2)
  refine knP_ext r (fun k hk => ?_)
  show (Q k).toInt.toNat = knN (fun k => (P k).toInt.toNat) pl W k
  unfold knN
  by_cases c : k < pl
  · rw [if_pos c, o1 k c]
  · rw [if_neg c]
    by_cases c2 : k = pl
    · rw [if_pos c2, c2]
      omega
    · rw [if_neg c2, o3 k (by omega) (by omega)]
theorem rAhd_lt {N : Mem} {w x : Int32} (h : x.toInt ≤ w.toInt) : rAhd N w x = decide ((iv N 188 w.toInt.toNat).toInt < (iv N 188 x.toInt.toNat).toInt) := by
  unfold rAhd
  rw [decide_eq_false (show ¬ w.toInt < x.toInt by omega)]
  cases decide ((iv N 188 w.toInt.toNat).toInt < (iv N 188 x.toInt.toNat).toInt) <;> cases decide ((iv N 188 w.toInt.toNat).toInt = (iv N 188 x.toInt.toNat).toInt) <;> rfl
/-- the order as it is laid, by now -/
def LOI (A N : Mem) (W p : Nat) : Prop := Sh N ∧ (∀ c i, c ≠ 217 → mSlot N c i = mSlot A c i) ∧ p ≤ W ∧ (∀ k, k < p → iv N 217 k = iv A 217 k) ∧ (∀ k, p < k → k ≤ W → iv N 217 k = iv A 217 (k - 1)) ∧ ∀ k, p ≤ k → k < W → (iv A 188 W).toInt < (iv A 188 (iv A 217 k).toInt.toNat).toInt
theorem lo_in {A : Mem} {W : Nat} {w : Int32} (hw : w.toInt = (W : Int)) (w40 : W < 40) (hA : ∀ k, k < W → (iv A 217 k).toInt.toNat < W) : ∀ (n : Nat) {d : Nat} {L : MLoc} {N : Mem} {r : Option Value} {M1 : Mem} {p : Int32}, LOI A N W p.toInt.toNat → mLd L 0 = some (.ref 181) → mLd L 1 = some (.int w) → mLd L 2 = some (.int p) → 0 ≤ p.toInt → En n d 223 20 L [] N r M1 → ∃ L' N' y, (LOI A N' W y.toInt.toNat ∧ (mLd L' 0 = some (.ref 181) ∧ mLd L' 1 = some (.int w) ∧ mLd L' 2 = some (.int y)) ∧ 0 ≤ y.toInt ∧ (y.toInt = 0 ∨ ¬ (iv A 188 W).toInt < (iv A 188 (iv A 217 (y.toInt.toNat - 1)).toInt.toNat).toInt)) ∧ En n d 223 61 L' [] N' r M1 := by
  intro n
  induction n with
  | zero => intro d L N r M1 p _ _ _ _ _ h; exact (En.zero (mi := 223) (pc := 20) (len := 1) rfl h).elim
  | succ n ih =>
    intro d L N r M1 p hI l0 l1 l2 p0 h
    have hS := hI.1
    have up9 : ∀ {P : MLoc → Mem → Int32 → Prop}, (∃ L' N' y, P L' N' y ∧ En n d 223 61 L' [] N' r M1) → ∃ L' N' y, P L' N' y ∧ En (n + 1) d 223 61 L' [] N' r M1 := fun ⟨a, b, c, u, v⟩ => ⟨a, b, c, u, v.up (Nat.le_succ n)⟩
    replace h := eIloadS (mi := 223) (pc := 20) (len := 1) (i := 2) rfl l2 h
    rcases eIf (mi := 223) (pc := 21) (len := 3) (t := 61) rfl rfl h with ⟨c1, h⟩ | ⟨c1, h⟩
    · replace c1 : ¬ 0 < p.toInt := mC_le.1 c1
      exact ⟨L, N, p, ⟨hI, ⟨l0, l1, l2⟩, p0, Or.inl (by omega)⟩, h.up (Nat.le_succ n)⟩
    · replace c1 : 0 < p.toInt := mC_le.2 c1
      have p1 : 0 < p.toInt := c1
      have pW : p.toInt.toNat ≤ W := hI.2.2.1
      have ep : (p - (1 : Int32)).toInt = p.toInt - 1 := by rw [i32_sub (by show -2147483648 ≤ p.toInt - 1; omega) (by show p.toInt - 1 ≤ 2147483647; have := (i32_rng p).2; omega)]; rfl
      have ei : (p - (1 : Int32)).toInt.toNat = p.toInt.toNat - 1 := by omega
      have eo : iv N 217 (p - (1 : Int32)).toInt.toNat = iv A 217 (p.toInt.toNat - 1) := by rw [ei]; exact hI.2.2.2.1 _ (by omega)
      have lt := hA (p.toInt.toNat - 1) (by omega)
      have wn : w.toInt.toNat = W := by omega
      have e188 : ∀ i, iv N 188 i = iv A 188 i := fun i => by unfold iv; rw [hI.2.1 188 i (by decide)]
      have ea : rAhd N w (iv N 217 (p - (1 : Int32)).toInt.toNat) = decide ((iv A 188 W).toInt < (iv A 188 (iv A 217 (p.toInt.toNat - 1)).toInt.toNat).toInt) := by
        rw [rAhd_lt (by rw [eo]; omega), wn, eo, e188, e188]
      replace h := eAload (mi := 223) (pc := 24) (len := 1) (i := 0) rfl l0 h
      replace h := eIload (mi := 223) (pc := 25) (len := 1) (i := 1) rfl l1 h
      replace h := eAload (mi := 223) (pc := 26) (len := 1) (i := 0) rfl l0 h
      replace h := eGetR (a := 181) (j := 1150) (g := 217) hS (by decide) (by decide) rfl rfl rfl (mi := 223) (pc := 27) (len := 3) rfl h
      replace h := eIload (mi := 223) (pc := 30) (len := 1) (i := 2) rfl l2 h
      replace h := eConst (mi := 223) (pc := 31) (len := 1) (v := 1) rfl h
      replace h := eSub (mi := 223) (pc := 32) (len := 1) rfl h
      obtain ⟨bd2, h⟩ := eIald (x := (p - (1 : Int32))) hS (a := 217) (by decide) (by decide) rfl (mi := 223) (pc := 33) (len := 1) rfl h
      replace h := eCallP (mi := 223) (pc := 34) (len := 3) (j := 179) (as := [.ref 181, .int w, .int (iv N 217 (p - (1 : Int32)).toInt.toNat)]) (rest := []) rfl (Or.inr (Or.inl rfl)) (by decide) rfl rfl (fun _ _ _ _ g => rAhd_en hS g) h
      rcases eIf (mi := 223) (pc := 37) (len := 3) (t := 61) rfl rfl h with ⟨c3, h⟩ | ⟨c3, h⟩
      · replace c3 : rAhd N w (iv N 217 (p - (1 : Int32)).toInt.toNat) = false := mB_eq.1 c3
        rw [ea] at c3
        exact ⟨L, N, p, ⟨hI, ⟨l0, l1, l2⟩, p0, Or.inr (of_decide_eq_false c3)⟩, h.up (Nat.le_succ n)⟩
      · replace c3 : rAhd N w (iv N 217 (p - (1 : Int32)).toInt.toNat) = true := mB_eq.2 c3
        replace h := eAload (mi := 223) (pc := 40) (len := 1) (i := 0) rfl l0 h
        replace h := eGetR (a := 181) (j := 1150) (g := 217) hS (by decide) (by decide) rfl rfl rfl (mi := 223) (pc := 41) (len := 3) rfl h
        replace h := eIload (mi := 223) (pc := 44) (len := 1) (i := 2) rfl l2 h
        replace h := eAload (mi := 223) (pc := 45) (len := 1) (i := 0) rfl l0 h
        replace h := eGetR (a := 181) (j := 1150) (g := 217) hS (by decide) (by decide) rfl rfl rfl (mi := 223) (pc := 46) (len := 3) rfl h
        replace h := eIload (mi := 223) (pc := 49) (len := 1) (i := 2) rfl l2 h
        replace h := eConst (mi := 223) (pc := 50) (len := 1) (v := 1) rfl h
        replace h := eSub (mi := 223) (pc := 51) (len := 1) rfl h
        obtain ⟨bd4, h⟩ := eIald (x := (p - (1 : Int32))) hS (a := 217) (by decide) (by decide) rfl (mi := 223) (pc := 52) (len := 1) rfl h
        obtain ⟨N6, eN6⟩ : ∃ X_, X_ = mPut N 217 p.toInt.toNat (.int (iv N 217 (p - (1 : Int32)).toInt.toNat)) := ⟨_, rfl⟩
        obtain ⟨bd5, h⟩ := eIast (x := p) (N := N6) hS (a := 217) (by decide) (by decide) eN6 (mi := 223) (pc := 53) (len := 1) rfl h
        have hS7 : Sh N6 := by rw [eN6]; exact hS.put (by decide) (by decide) rfl
        replace h := eIload (mi := 223) (pc := 54) (len := 1) (i := 2) rfl l2 h
        replace h := eConst (mi := 223) (pc := 55) (len := 1) (v := 1) rfl h
        replace h := eSub (mi := 223) (pc := 56) (len := 1) rfl h
        replace h := eIstore (mi := 223) (pc := 57) (len := 1) (i := 2) rfl (by decide) h
        replace h := eGoto (mi := 223) (pc := 58) (len := 3) (t := 20) rfl rfl h
        rw [ea] at c3
        have cx := of_decide_eq_true c3
        obtain ⟨_, hk, _, o1, o3, h2⟩ := hI
        have n9 : ∀ k, k ≠ p.toInt.toNat → iv N6 217 k = iv N 217 k := fun k q => by rw [eN6]; exact iv_put_ne (Or.inr q)
        have n9p : iv N6 217 p.toInt.toNat = iv A 217 (p.toInt.toNat - 1) := by rw [eN6, iv_put_eq hS (by decide) (by decide) (by show p.toInt.toNat < 40; omega)]; exact eo
        refine up9 (ih (p := p - (1 : Int32)) ⟨hS7, fun c i q => by rw [eN6, mSlot_put_ne (Or.inl q)]; exact hk c i q, by omega, fun k q => ?_, fun k q1 q2 => ?_, fun k q1 q2 => ?_⟩ (mLd_st1_ref (by decide) l0) (mLd_st1_int (by decide) l1) mLd_st1_i (by omega) h)
        · rw [n9 k (by omega)]
          exact o1 k (by omega)
        · by_cases c : k = p.toInt.toNat
          · rw [c, n9p]
          · rw [n9 k c]
            exact o3 k (by omega) q2
        · by_cases c : k = p.toInt.toNat - 1
          · rw [c]
            exact cx
          · exact h2 k (by omega) q2
/-- an order that is laid, W deeds of it -/
def LOO (A N : Mem) (W : Nat) : Prop := Sh N ∧ (∀ c i, c ≠ 217 → ¬ (c = 181 ∧ i = 49) → mSlot N c i = mSlot A c i) ∧ (iv N 181 49).toInt = (W : Int) ∧ knP (fun d => (iv A 188 d).toInt) W (fun k => (iv N 217 k).toInt.toNat) ∧ ∀ k, k < W → 0 ≤ (iv N 217 k).toInt
theorem lo_lp {A : Mem} {nn : Nat} (hn : (iv A 181 0).toInt = (nn : Int)) (n40 : nn ≤ 40) : ∀ (n : Nat) {d : Nat} {L : MLoc} {N : Mem} {r : Option Value} {M1 : Mem} {w : Int32} (W : Nat), LOO A N W → mLd L 0 = some (.ref 181) → mLd L 1 = some (.int w) → w.toInt = (W : Int) → W ≤ nn → En n d 223 7 L [] N r M1 → r = none ∧ LOO A M1 nn := by
  intro n
  induction n with
  | zero => intro d L N r M1 w W _ _ _ _ _ h; exact (En.zero (mi := 223) (pc := 7) (len := 1) rfl h).elim
  | succ n ih =>
    intro d L N r M1 w W hI l0 l1 hw hW h
    obtain ⟨hS, hf, h49, hP, hpos⟩ := hI
    have e0 : iv N 181 0 = iv A 181 0 := by unfold iv; rw [hf 181 0 (by decide) (by decide)]
    replace h := eIloadS (mi := 223) (pc := 7) (len := 1) (i := 1) rfl l1 h
    replace h := eAload (mi := 223) (pc := 8) (len := 1) (i := 0) rfl l0 h
    replace h := eGetI (a := 181) (j := 1100) hS (by decide) (by decide) rfl (mi := 223) (pc := 9) (len := 3) rfl h
    rcases eIc (mi := 223) (pc := 12) (len := 3) (t := 84) rfl rfl h with ⟨c1, h⟩ | ⟨c1, h⟩
    · replace c1 : ¬ w.toInt < (iv N 181 0).toInt := mC_ge.1 c1
      obtain ⟨e1, e2⟩ := eRetV (mi := 223) (pc := 84) (len := 1) rfl h
      rw [e0] at c1
      have ew : nn = W := by omega
      rw [ew, e2]
      exact ⟨e1, hS, hf, h49, hP, hpos⟩
    · replace c1 : w.toInt < (iv N 181 0).toInt := mC_ge.2 c1
      replace h := eAload (mi := 223) (pc := 15) (len := 1) (i := 0) rfl l0 h
      replace h := eGetI (a := 181) (j := 1149) hS (by decide) (by decide) rfl (mi := 223) (pc := 16) (len := 3) rfl h
      replace h := eIstore (mi := 223) (pc := 19) (len := 1) (i := 2) rfl (by decide) h
      rw [e0] at c1
      have wl : W < nn := by omega
      obtain ⟨L2, N2, y, ⟨hI2, ⟨k0, k1, k2⟩, y0, hx⟩, h⟩ := lo_in (A := N) (W := W) hw (by omega) (fun k hk => hP.1 k hk) n (p := iv N 181 49) ⟨hS, fun _ _ _ => rfl, by omega, fun _ _ => rfl, fun k a b => absurd b (by omega), fun k a b => absurd b (by omega)⟩ (mLd_st1_ref (by decide) l0) (mLd_st1_int (by decide) l1) mLd_st1_i (by omega) h
      obtain ⟨hS2, hf2, yW, o1, o3, h2⟩ := hI2
      replace h := eAload (mi := 223) (pc := 61) (len := 1) (i := 0) rfl k0 h
      replace h := eGetR (a := 181) (j := 1150) (g := 217) hS2 (by decide) (by decide) rfl rfl rfl (mi := 223) (pc := 62) (len := 3) rfl h
      replace h := eIload (mi := 223) (pc := 65) (len := 1) (i := 2) rfl k2 h
      replace h := eIload (mi := 223) (pc := 66) (len := 1) (i := 1) rfl k1 h
      obtain ⟨N3, eN3⟩ : ∃ X_, X_ = mPut N2 217 y.toInt.toNat (.int w) := ⟨_, rfl⟩
      obtain ⟨bd2, h⟩ := eIast (x := y) (N := N3) hS2 (a := 217) (by decide) (by decide) eN3 (mi := 223) (pc := 67) (len := 1) rfl h
      have hS4 : Sh N3 := by rw [eN3]; exact hS2.put (by decide) (by decide) rfl
      replace h := eAload (mi := 223) (pc := 68) (len := 1) (i := 0) rfl k0 h
      replace h := eAload (mi := 223) (pc := 69) (len := 1) (i := 0) rfl k0 h
      replace h := eGetI (a := 181) (j := 1149) hS4 (by decide) (by decide) rfl (mi := 223) (pc := 70) (len := 3) rfl h
      replace h := eConst (mi := 223) (pc := 73) (len := 1) (v := 1) rfl h
      replace h := eAdd (mi := 223) (pc := 74) (len := 1) rfl h
      obtain ⟨N5, eN5⟩ : ∃ X_, X_ = mPut N3 181 49 (.int ((iv N3 181 49) + (1 : Int32))) := ⟨_, rfl⟩
      replace h := ePutE (a := 181) (f := 49) (N := N5) rfl eN5 (mi := 223) (pc := 75) (len := 3) (j := 1149) rfl h
      have hS6 : Sh N5 := by rw [eN5]; exact hS4.put (by decide) (by decide) rfl
      replace h := eIinc (mi := 223) (pc := 78) (len := 3) (i := 1) (k := 1) rfl k1 (by decide) h
      replace h := eGoto (mi := 223) (pc := 81) (len := 3) (t := 7) rfl rfl h
      have yn : y.toInt.toNat < 40 := by omega
      have e188 : ∀ i, iv N 188 i = iv A 188 i := fun i => by unfold iv; rw [hf 188 i (by decide) (by omega)]
      have q217 : ∀ k, iv N5 217 k = iv N3 217 k := fun k => by rw [eN5]; exact iv_put_ne (Or.inl (by decide))
      have qp : iv N5 217 y.toInt.toNat = w := by rw [q217, eN3]; exact iv_put_eq hS2 (by decide) (by decide) yn
      have qn : ∀ k, k ≠ y.toInt.toNat → iv N5 217 k = iv N2 217 k := fun k q => by rw [q217, eN3]; exact iv_put_ne (Or.inr q)
      have f49 : iv N3 181 49 = iv N 181 49 := by rw [eN3, iv_put_ne (Or.inl (by decide))]; unfold iv; rw [hf2 181 49 (by decide)]
      have g49 : (iv N5 181 49).toInt = ((W + 1 : Nat) : Int) := by rw [eN5, iv_put_eq hS4 (by decide) (by decide) (by decide), f49, i32_inc (by omega) (by omega)]; omega
      have ew : ((w + 1)).toInt = ((W + 1 : Nat) : Int) := by rw [i32_inc (by omega) (by omega)]; omega
      refine ih (W + 1) ⟨hS6, fun c i q1 q2 => ?_, g49, ?_, fun k hk => ?_⟩ (mLd_st1_ref (by decide) k0) mLd_st1_i ew (by omega) h
      · rw [eN5, mSlot_put_ne (by omega), eN3, mSlot_put_ne (Or.inl q1), hf2 c i q1]
        exact hf c i q1 q2
      · refine ord_new (pl := y.toInt.toNat) (P := fun k => iv N 217 k) hP yW (fun k q => ?_) (by rw [qp]; exact hw) (fun k q1 q2 => ?_) ?_ (fun k q1 q2 => ?_)
        · rw [qn k (by omega)]
          exact o1 k q
        · rw [qn k (by omega)]
          exact o3 k q1 q2
        · rcases hx with q | q
          · exact Or.inl (by omega)
          · rw [e188, e188] at q
            exact Or.inr (by show (iv A 188 (iv N 217 (y.toInt.toNat - 1)).toInt.toNat).toInt ≤ (iv A 188 W).toInt; omega)
        · have q := h2 k q1 q2
          rw [e188, e188] at q
          exact q
      · by_cases c : k = y.toInt.toNat
        · rw [c, qp]
          omega
        · rw [qn k c]
          by_cases c2 : k < y.toInt.toNat
          · rw [o1 k c2]
            exact hpos k (by omega)
          · rw [o3 k (by omega) (by omega)]
            exact hpos (k - 1) (by omega)
theorem lo_en {A : Mem} {nn : Nat} (hS : Sh A) (hn : (iv A 181 0).toInt = (nn : Int)) (n40 : nn ≤ 40) {n d : Nat} {r : Option Value} {M1 : Mem} (h : En n d 223 0 (lv_args 0 [.ref 181]) [] A r M1) : r = none ∧ LOO A M1 nn := by
  replace h := eAload (mi := 223) (pc := 0) (len := 1) (i := 0) rfl rfl h
  replace h := eConst (mi := 223) (pc := 1) (len := 1) (v := 0) rfl h
  obtain ⟨N1, eN1⟩ : ∃ X_, X_ = mPut A 181 49 (.int (0 : Int32)) := ⟨_, rfl⟩
  replace h := ePutE (a := 181) (f := 49) (N := N1) rfl eN1 (mi := 223) (pc := 2) (len := 3) (j := 1149) rfl h
  have hS2 : Sh N1 := by rw [eN1]; exact hS.put (by decide) (by decide) rfl
  replace h := eConst (mi := 223) (pc := 5) (len := 1) (v := 0) rfl h
  replace h := eIstore (mi := 223) (pc := 6) (len := 1) (i := 1) rfl (by decide) h
  exact lo_lp hn n40 _ 0 ⟨hS2, fun c i _ q => by rw [eN1]; exact mSlot_put_ne (by omega), by rw [eN1, iv_put_eq hS (by decide) (by decide) (by decide)]; rfl, knP_0, fun k hk => absurd hk (Nat.not_lt_zero k)⟩ rfl rfl rfl (Nat.zero_le _) h
/-- WidowDeedsModel.isVoid -/
def rVoi (M : Mem) (x : Int32) : Bool := (bif decide ((iv M 194 x.toInt.toNat).toInt = 0) then (bif rDead M (iv M 185 x.toInt.toNat) (iv M 188 x.toInt.toNat) then true else false) else true)
theorem rVoi_en {x : Int32} {n d : Nat} {M : Mem} {r : Option Value} {M1 : Mem} (hS : Sh M) (h : En n d 177 0 (lv_args 0 [.ref 181, .int x]) [] M r M1) : r = some (.int (b2 (rVoi M x))) ∧ M1 = M := by
  replace h := eAload (mi := 177) (pc := 0) (len := 1) (i := 0) rfl rfl h
  replace h := eGetR (a := 181) (j := 1114) (g := 194) hS (by decide) (by decide) rfl rfl rfl (mi := 177) (pc := 1) (len := 3) rfl h
  replace h := eIload (mi := 177) (pc := 4) (len := 1) (i := 1) rfl rfl h
  obtain ⟨b1, h⟩ := eBald (x := x) hS (a := 194) (by decide) (by decide) rfl (mi := 177) (pc := 5) (len := 1) rfl h
  rcases eIf (mi := 177) (pc := 6) (len := 3) (t := 28) rfl rfl h with ⟨c2, h⟩ | ⟨c2, h⟩
  · replace c2 : ¬ (iv M 194 x.toInt.toNat).toInt = 0 := mC_ne.1 c2
    replace h := eConst (mi := 177) (pc := 28) (len := 1) (v := 1) rfl h
    replace h := eGoto (mi := 177) (pc := 29) (len := 3) (t := 33) rfl rfl h
    obtain ⟨e1, e2⟩ := eRetI (mi := 177) (pc := 33) (len := 1) rfl h
    have e3 : rVoi M x = true := by
      unfold rVoi
      simp only [decide_eq_false c2, cond_true, cond_false]
    rw [e3]
    exact ⟨e1, e2⟩
  · replace c2 : (iv M 194 x.toInt.toNat).toInt = 0 := mC_ne.2 c2
    replace h := eAload (mi := 177) (pc := 9) (len := 1) (i := 0) rfl rfl h
    replace h := eAload (mi := 177) (pc := 10) (len := 1) (i := 0) rfl rfl h
    replace h := eGetR (a := 181) (j := 1105) (g := 185) hS (by decide) (by decide) rfl rfl rfl (mi := 177) (pc := 11) (len := 3) rfl h
    replace h := eIload (mi := 177) (pc := 14) (len := 1) (i := 1) rfl rfl h
    obtain ⟨b3, h⟩ := eIald (x := x) hS (a := 185) (by decide) (by decide) rfl (mi := 177) (pc := 15) (len := 1) rfl h
    replace h := eAload (mi := 177) (pc := 16) (len := 1) (i := 0) rfl rfl h
    replace h := eGetR (a := 181) (j := 1108) (g := 188) hS (by decide) (by decide) rfl rfl rfl (mi := 177) (pc := 17) (len := 3) rfl h
    replace h := eIload (mi := 177) (pc := 20) (len := 1) (i := 1) rfl rfl h
    obtain ⟨b4, h⟩ := eIald (x := x) hS (a := 188) (by decide) (by decide) rfl (mi := 177) (pc := 21) (len := 1) rfl h
    replace h := eCallP (mi := 177) (pc := 22) (len := 3) (j := 176) (as := [.ref 181, .int (iv M 185 x.toInt.toNat), .int (iv M 188 x.toInt.toNat)]) (rest := []) rfl (Or.inr (Or.inl rfl)) (by decide) rfl rfl (fun _ _ _ _ g => rDead_en hS g) h
    rcases eIf (mi := 177) (pc := 25) (len := 3) (t := 32) rfl rfl h with ⟨c5, h⟩ | ⟨c5, h⟩
    · replace c5 : rDead M (iv M 185 x.toInt.toNat) (iv M 188 x.toInt.toNat) = false := mB_eq.1 c5
      replace h := eConst (mi := 177) (pc := 32) (len := 1) (v := 0) rfl h
      obtain ⟨e1, e2⟩ := eRetI (mi := 177) (pc := 33) (len := 1) rfl h
      have e3 : rVoi M x = false := by
        unfold rVoi
        simp only [decide_eq_true c2, c5, cond_true, cond_false]
      rw [e3]
      exact ⟨e1, e2⟩
    · replace c5 : rDead M (iv M 185 x.toInt.toNat) (iv M 188 x.toInt.toNat) = true := mB_eq.2 c5
      replace h := eConst (mi := 177) (pc := 28) (len := 1) (v := 1) rfl h
      replace h := eGoto (mi := 177) (pc := 29) (len := 3) (t := 33) rfl rfl h
      obtain ⟨e1, e2⟩ := eRetI (mi := 177) (pc := 33) (len := 1) rfl h
      have e3 : rVoi M x = true := by
        unfold rVoi
        simp only [decide_eq_true c2, c5, cond_true, cond_false]
      rw [e3]
      exact ⟨e1, e2⟩
/-- WidowDeedsModel.isOffered -/
def rOffd (M : Mem) (x : Int32) (s : Int32) (t : Int32) (g : Int32) : Bool := (bif decide ((iv M 189 x.toInt.toNat).toInt = 0) then (bif rOf M x s then (bif rVoi M x then false else (bif decide (t.toInt < (iv M 188 x.toInt.toNat).toInt) then false else (bif decide ((iv M 185 x.toInt.toNat).toInt = g.toInt) then true else false))) else false) else false)
theorem rOffd_en {x : Int32} {s : Int32} {t : Int32} {g : Int32} {n d : Nat} {M : Mem} {r : Option Value} {M1 : Mem} (hS : Sh M) (h : En n d 224 0 (lv_args 0 [.ref 181, .int x, .int s, .int t, .int g]) [] M r M1) : r = some (.int (b2 (rOffd M x s t g))) ∧ M1 = M := by
  replace h := eAload (mi := 224) (pc := 0) (len := 1) (i := 0) rfl rfl h
  replace h := eGetR (a := 181) (j := 1109) (g := 189) hS (by decide) (by decide) rfl rfl rfl (mi := 224) (pc := 1) (len := 3) rfl h
  replace h := eIload (mi := 224) (pc := 4) (len := 1) (i := 1) rfl rfl h
  obtain ⟨b1, h⟩ := eIald (x := x) hS (a := 189) (by decide) (by decide) rfl (mi := 224) (pc := 5) (len := 1) rfl h
  rcases eIf (mi := 224) (pc := 6) (len := 3) (t := 51) rfl rfl h with ⟨c2, h⟩ | ⟨c2, h⟩
  · replace c2 : ¬ (iv M 189 x.toInt.toNat).toInt = 0 := mC_ne.1 c2
    replace h := eConst (mi := 224) (pc := 51) (len := 1) (v := 0) rfl h
    obtain ⟨e1, e2⟩ := eRetI (mi := 224) (pc := 52) (len := 1) rfl h
    have e3 : rOffd M x s t g = false := by
      unfold rOffd
      simp only [decide_eq_false c2, cond_true, cond_false]
    rw [e3]
    exact ⟨e1, e2⟩
  · replace c2 : (iv M 189 x.toInt.toNat).toInt = 0 := mC_ne.2 c2
    replace h := eAload (mi := 224) (pc := 9) (len := 1) (i := 0) rfl rfl h
    replace h := eIload (mi := 224) (pc := 10) (len := 1) (i := 1) rfl rfl h
    replace h := eIload (mi := 224) (pc := 11) (len := 1) (i := 2) rfl rfl h
    replace h := eCallP (mi := 224) (pc := 12) (len := 3) (j := 178) (as := [.ref 181, .int x, .int s]) (rest := []) rfl (Or.inr (Or.inl rfl)) (by decide) rfl rfl (fun _ _ _ _ g => rOf_en hS g) h
    rcases eIf (mi := 224) (pc := 15) (len := 3) (t := 51) rfl rfl h with ⟨c3, h⟩ | ⟨c3, h⟩
    · replace c3 : rOf M x s = false := mB_eq.1 c3
      replace h := eConst (mi := 224) (pc := 51) (len := 1) (v := 0) rfl h
      obtain ⟨e1, e2⟩ := eRetI (mi := 224) (pc := 52) (len := 1) rfl h
      have e3 : rOffd M x s t g = false := by
        unfold rOffd
        simp only [decide_eq_true c2, c3, cond_true, cond_false]
      rw [e3]
      exact ⟨e1, e2⟩
    · replace c3 : rOf M x s = true := mB_eq.2 c3
      replace h := eAload (mi := 224) (pc := 18) (len := 1) (i := 0) rfl rfl h
      replace h := eIload (mi := 224) (pc := 19) (len := 1) (i := 1) rfl rfl h
      replace h := eCallP (mi := 224) (pc := 20) (len := 3) (j := 177) (as := [.ref 181, .int x]) (rest := []) rfl (Or.inr (Or.inl rfl)) (by decide) rfl rfl (fun _ _ _ _ g => rVoi_en hS g) h
      rcases eIf (mi := 224) (pc := 23) (len := 3) (t := 51) rfl rfl h with ⟨c4, h⟩ | ⟨c4, h⟩
      · replace c4 : rVoi M x = true := mB_ne.1 c4
        replace h := eConst (mi := 224) (pc := 51) (len := 1) (v := 0) rfl h
        obtain ⟨e1, e2⟩ := eRetI (mi := 224) (pc := 52) (len := 1) rfl h
        have e3 : rOffd M x s t g = false := by
          unfold rOffd
          simp only [decide_eq_true c2, c3, c4, cond_true, cond_false]
        rw [e3]
        exact ⟨e1, e2⟩
      · replace c4 : rVoi M x = false := mB_ne.2 c4
        replace h := eAload (mi := 224) (pc := 26) (len := 1) (i := 0) rfl rfl h
        replace h := eGetR (a := 181) (j := 1108) (g := 188) hS (by decide) (by decide) rfl rfl rfl (mi := 224) (pc := 27) (len := 3) rfl h
        replace h := eIload (mi := 224) (pc := 30) (len := 1) (i := 1) rfl rfl h
        obtain ⟨b5, h⟩ := eIald (x := x) hS (a := 188) (by decide) (by decide) rfl (mi := 224) (pc := 31) (len := 1) rfl h
        replace h := eIload (mi := 224) (pc := 32) (len := 1) (i := 3) rfl rfl h
        rcases eIc (mi := 224) (pc := 33) (len := 3) (t := 51) rfl rfl h with ⟨c6, h⟩ | ⟨c6, h⟩
        · replace c6 : t.toInt < (iv M 188 x.toInt.toNat).toInt := mC_gt.1 c6
          replace h := eConst (mi := 224) (pc := 51) (len := 1) (v := 0) rfl h
          obtain ⟨e1, e2⟩ := eRetI (mi := 224) (pc := 52) (len := 1) rfl h
          have e3 : rOffd M x s t g = false := by
            unfold rOffd
            simp only [decide_eq_true c2, c3, c4, decide_eq_true c6, cond_true, cond_false]
          rw [e3]
          exact ⟨e1, e2⟩
        · replace c6 : ¬ t.toInt < (iv M 188 x.toInt.toNat).toInt := mC_gt.2 c6
          replace h := eAload (mi := 224) (pc := 36) (len := 1) (i := 0) rfl rfl h
          replace h := eGetR (a := 181) (j := 1105) (g := 185) hS (by decide) (by decide) rfl rfl rfl (mi := 224) (pc := 37) (len := 3) rfl h
          replace h := eIload (mi := 224) (pc := 40) (len := 1) (i := 1) rfl rfl h
          obtain ⟨b7, h⟩ := eIald (x := x) hS (a := 185) (by decide) (by decide) rfl (mi := 224) (pc := 41) (len := 1) rfl h
          replace h := eIload (mi := 224) (pc := 42) (len := 2) (i := 4) rfl rfl h
          rcases eIc (mi := 224) (pc := 44) (len := 3) (t := 51) rfl rfl h with ⟨c8, h⟩ | ⟨c8, h⟩
          · replace c8 : ¬ (iv M 185 x.toInt.toNat).toInt = g.toInt := mC_ne.1 c8
            replace h := eConst (mi := 224) (pc := 51) (len := 1) (v := 0) rfl h
            obtain ⟨e1, e2⟩ := eRetI (mi := 224) (pc := 52) (len := 1) rfl h
            have e3 : rOffd M x s t g = false := by
              unfold rOffd
              simp only [decide_eq_true c2, c3, c4, decide_eq_false c6, decide_eq_false c8, cond_true, cond_false]
            rw [e3]
            exact ⟨e1, e2⟩
          · replace c8 : (iv M 185 x.toInt.toNat).toInt = g.toInt := mC_ne.2 c8
            replace h := eConst (mi := 224) (pc := 47) (len := 1) (v := 1) rfl h
            replace h := eGoto (mi := 224) (pc := 48) (len := 3) (t := 52) rfl rfl h
            obtain ⟨e1, e2⟩ := eRetI (mi := 224) (pc := 52) (len := 1) rfl h
            have e3 : rOffd M x s t g = true := by
              unfold rOffd
              simp only [decide_eq_true c2, c3, c4, decide_eq_false c6, decide_eq_true c8, cond_true, cond_false]
            rw [e3]
            exact ⟨e1, e2⟩
theorem rVoi_eq {M N : Mem} {n : Nat} (h : AR M N n) {x : Int32} (hx : x.toInt.toNat < n) : rVoi N x = bVoid M x.toInt.toNat := by
  unfold rVoi bVoid
  rw [AL_6 h.1 hx, AL_0 h.1 hx, AL_3 h.1 hx, rDead_eq h (by have := (h.2.2.2.1 _ (Nat.lt_of_lt_of_le hx h.1.1)).1; omega)]
theorem rOffd_eq {M N : Mem} {n : Nat} (h : AR M N n) {x s t g : Int32} (hx : x.toInt.toNat < n) : rOffd N x s t g = offS M (stgF M s t) g x.toInt.toNat := by
  unfold rOffd offS stgF bKs bGd
  rw [AL_4 h.1 hx, rOf_eq h.1 hx, rVoi_eq h hx, AL_3 h.1 hx, AL_0 h.1 hx]
  cases decide ((iv M (10 + x.toInt.toNat) 4).toInt = 0) <;> cases bOf M x.toInt.toNat s <;> cases bVoid M x.toInt.toNat <;> cases decide (t.toInt < (iv M (10 + x.toInt.toNat) 3).toInt) <;> cases decide ((iv M (10 + x.toInt.toNat) 0).toInt = g.toInt) <;> rfl
/-- what asking for the best changes -/
def FzB (M N : Mem) : Prop := ∀ c i, c ≠ 215 → c ≠ 216 → c ≠ 219 → mSlot N c i = mSlot M c i
theorem FzB.rf {M : Mem} : FzB M M := fun _ _ _ _ _ => rfl
theorem FzB.tr {A B C : Mem} (h : FzB A B) (h' : FzB B C) : FzB A C := fun c i p q w => (h' c i p q w).trans (h c i p q w)
theorem FzB.d {A B : Mem} (h : FzD A B) : FzB A B := fun c i p q _ => h c i p q
theorem FzB.put {A : Mem} {i : Nat} {v : Value} : FzB A (mPut A 219 i v) := fun c j _ _ q => mSlot_put_ne (Or.inl q)
/-- what walking changes -/
def FzW (M N : Mem) : Prop := ∀ c i, c ≠ 215 → c ≠ 216 → c ≠ 218 → c ≠ 219 → ¬ (c = 181 ∧ i = 48) → mSlot N c i = mSlot M c i
theorem FzW.rf {M : Mem} : FzW M M := fun _ _ _ _ _ _ _ => rfl
theorem FzW.tr {A B C : Mem} (h : FzW A B) (h' : FzW B C) : FzW A C := fun c i a b p q w => (h' c i a b p q w).trans (h c i a b p q w)
theorem FzW.b {A B : Mem} (h : FzB A B) : FzW A B := fun c i p q _ w _ => h c i p q w
theorem FzW.put {A : Mem} {a i : Nat} {v : Value} (h : a = 218 ∨ a = 219 ∨ (a = 181 ∧ i = 48)) : FzW A (mPut A a i v) := fun c j _ _ _ _ _ => mSlot_put_ne (by omega)
theorem FzW.si {M N : Mem} (h : FzW M N) {c i : Nat} (q : c ≠ 215 ∧ c ≠ 216 ∧ c ≠ 218 ∧ c ≠ 219 ∧ ¬ (c = 181 ∧ i = 48)) : iv N c i = iv M c i := by unfold iv; rw [h c i q.1 q.2.1 q.2.2.1 q.2.2.2.1 q.2.2.2.2]
/-- the reference, ready to walk -/
def RCw (M N : Mem) (n : Nat) : Prop := Sh N ∧ AR M N n ∧ knR M N n ∧ (∀ c i, 209 ≤ c → c ≤ 214 → iv N c i = iv M c i) ∧ (∀ k, k < n → (iv N 217 k).toInt = (ordF M k : Int)) ∧ (iv N 181 49).toInt = (n : Int)
theorem RC_w {M N N' : Mem} {n : Nat} (h : RCw M N n) (hS : Sh N') (f : FzW N N') : RCw M N' n :=
  ⟨hS, AR_r h.2.1 (fun c i q => f.si (by omega)), fun p hp d hd => (f.si (by omega)).trans (h.2.2.1 p hp d hd), fun c i a b => (f.si (by omega)).trans (h.2.2.2.1 c i a b), fun k hk => by rw [f.si (by omega)]; exact h.2.2.2.2.1 k hk, by rw [f.si (by omega)]; exact h.2.2.2.2.2⟩
/-- a deed's number or none -/
def obD (M : Mem) : Option Nat → Int32
  | none => -1
  | some b => Int32.ofNat (ordF M b)
theorem bst_lp {M N0 : Mem} {W : Nat → WL} {n0 : Nat} {s t now : Int32} {a : Nat} {q : Nat → Bool} (hn : n0 = nC M) (hO : ordC M) (hW : lwOk M W) (hs : s.toInt.toNat < 8) (hk0 : 0 ≤ (iv M 6 s.toInt.toNat).toInt ∧ (iv M 6 s.toInt.toNat).toInt ≤ 2) (hd9 : ∀ e, e < n0 → (iv M (10 + e) 3).toInt ≤ 999) (ht : t.toInt < 1000) : ∀ (n : Nat) {d : Nat} {L : MLoc} {N : Mem} {r : Option Value} {M1 : Mem} {f k x : Int32} (kk : Nat), mLd L 0 = some (.ref 181) → mLd L 1 = some (.int s) → mLd L 2 = some (.int t) → mLd L 3 = some (.int now) → mLd L 4 = some (.int f) → mLd L 5 = some (.int x) → mLd L 6 = some (.int k) → k.toInt = ((a + kk : Nat) : Int) → a + kk ≤ n0 → x = obD M (bstN (offS M (stgF M s t) now) (btF M W s t 98) (ordF M) a kk) → RCw M N n0 → FzB N0 N → (∀ d, d < 40 → iv N 219 d = b2 (lkN (offS M (stgF M s t) now) (ordF M) a q kk d)) → En n d 225 7 L [] N r M1 → r = some (.int (obD M (bstN (offS M (stgF M s t) now) (btF M W s t 98) (ordF M) a (n0 - a)))) ∧ RCw M M1 n0 ∧ FzB N0 M1 ∧ (∀ d, d < 40 → iv M1 219 d = b2 (lkN (offS M (stgF M s t) now) (ordF M) a q (n0 - a) d)) := by
  intro n
  induction n with
  | zero => intro d L N r M1 f k x kk _ _ _ _ _ _ _ _ _ _ _ _ _ h; exact (En.zero (mi := 225) (pc := 7) (len := 2) rfl h).elim
  | succ n ih =>
    intro d L N r M1 f k x kk l0 l1 l2 l3 l4 l5 l6 hk hkn hx hC fz hlk h
    have hS := hC.1
    have n40 : n0 ≤ 40 := hC.2.1.1.1
    have e49 := hC.2.2.2.2.2
    replace h := eIloadS (mi := 225) (pc := 7) (len := 2) (i := 6) rfl l6 h
    replace h := eAload (mi := 225) (pc := 9) (len := 1) (i := 0) rfl l0 h
    replace h := eGetI (a := 181) (j := 1149) hS (by decide) (by decide) rfl (mi := 225) (pc := 10) (len := 3) rfl h
    rcases eIc (mi := 225) (pc := 13) (len := 3) (t := 79) rfl rfl h with ⟨c1, h⟩ | ⟨c1, h⟩
    · replace c1 : ¬ k.toInt < (iv N 181 49).toInt := mC_ge.1 c1
      replace h := eIload (mi := 225) (pc := 79) (len := 2) (i := 5) rfl l5 h
      obtain ⟨e1, e2⟩ := eRetI (mi := 225) (pc := 81) (len := 1) rfl h
      have ekk : n0 - a = kk := by omega
      rw [ekk, e2, ← hx]
      exact ⟨e1, hC, fz, hlk⟩
    · replace c1 : k.toInt < (iv N 181 49).toInt := mC_ge.2 c1
      have kb : a + kk < n0 := by omega
      have ekn : k.toInt.toNat = a + kk := by omega
      have ei : (iv N 217 k.toInt.toNat).toInt = (ordF M (a + kk) : Int) := by rw [ekn]; exact hC.2.2.2.2.1 _ kb
      have en : (iv N 217 k.toInt.toNat).toInt.toNat = ordF M (a + kk) := by omega
      have on : ordF M (a + kk) < n0 := by rw [hn]; exact ordC_lt hO (by omega)
      have ek : (k + 1).toInt = ((a + (kk + 1) : Nat) : Int) := by rw [i32_inc (by omega) (by omega)]; omega
      have eof : rOffd N (iv N 217 k.toInt.toNat) s t now = offS M (stgF M s t) now (ordF M (a + kk)) := by rw [← en]; exact rOffd_eq hC.2.1 (by omega)
      replace h := eAload (mi := 225) (pc := 16) (len := 1) (i := 0) rfl l0 h
      replace h := eGetR (a := 181) (j := 1150) (g := 217) hS (by decide) (by decide) rfl rfl rfl (mi := 225) (pc := 17) (len := 3) rfl h
      replace h := eIload (mi := 225) (pc := 20) (len := 2) (i := 6) rfl l6 h
      obtain ⟨bd2, h⟩ := eIald (x := k) hS (a := 217) (by decide) (by decide) rfl (mi := 225) (pc := 22) (len := 1) rfl h
      replace h := eIstore (mi := 225) (pc := 23) (len := 2) (i := 7) rfl (by decide) h
      replace h := eAload (mi := 225) (pc := 25) (len := 1) (i := 0) rfl (mLd_st1_ref (by decide) l0) h
      replace h := eIload (mi := 225) (pc := 26) (len := 2) (i := 7) rfl mLd_st1_i h
      replace h := eIload (mi := 225) (pc := 28) (len := 1) (i := 1) rfl (mLd_st1_int (by decide) l1) h
      replace h := eIload (mi := 225) (pc := 29) (len := 1) (i := 2) rfl (mLd_st1_int (by decide) l2) h
      replace h := eIload (mi := 225) (pc := 30) (len := 1) (i := 3) rfl (mLd_st1_int (by decide) l3) h
      replace h := eCallP (mi := 225) (pc := 31) (len := 3) (j := 224) (as := [.ref 181, .int (iv N 217 k.toInt.toNat), .int s, .int t, .int now]) (rest := []) rfl (Or.inr (Or.inl rfl)) (by decide) rfl rfl (fun _ _ _ _ g => rOffd_en hS g) h
      rcases eIf (mi := 225) (pc := 34) (len := 3) (t := 40) rfl rfl h with ⟨c3, h⟩ | ⟨c3, h⟩
      · replace c3 : rOffd N (iv N 217 k.toInt.toNat) s t now = true := mB_ne.1 c3
        replace h := eAload (mi := 225) (pc := 40) (len := 1) (i := 0) rfl (mLd_st1_ref (by decide) l0) h
        replace h := eGetR (a := 181) (j := 1152) (g := 219) hS (by decide) (by decide) rfl rfl rfl (mi := 225) (pc := 41) (len := 3) rfl h
        replace h := eIload (mi := 225) (pc := 44) (len := 2) (i := 7) rfl mLd_st1_i h
        replace h := eConst (mi := 225) (pc := 46) (len := 1) (v := 1) rfl h
        obtain ⟨N5, eN5⟩ : ∃ X_, X_ = mPut N 219 (iv N 217 k.toInt.toNat).toInt.toNat (.int (1 : Int32)) := ⟨_, rfl⟩
        obtain ⟨bd4, h⟩ := eBst (x := (iv N 217 k.toInt.toNat)) (N := N5) hS (a := 219) (by decide) (by decide) (Or.inr rfl) eN5 (mi := 225) (pc := 47) (len := 1) rfl h
        have hS6 : Sh N5 := by rw [eN5]; exact hS.put (by decide) (by decide) rfl
        have fpN5 : FzB N N5 := by rw [eN5]; exact FzB.put
        have fzN5 : FzB N0 N5 := fz.tr fpN5
        have hCN5 := RC_w hC hS6 (FzW.b fpN5)
        replace h := eIload (mi := 225) (pc := 48) (len := 2) (i := 5) rfl (mLd_st1_int (by decide) l5) h
        replace h := eConst (mi := 225) (pc := 50) (len := 1) (v := (-1)) rfl h
        rcases eIc (mi := 225) (pc := 51) (len := 3) (t := 69) rfl rfl h with ⟨c7, h⟩ | ⟨c7, h⟩
        · replace c7 : x.toInt = (-1) := mC_eq.1 c7
          replace h := eIload (mi := 225) (pc := 69) (len := 2) (i := 7) rfl mLd_st1_i h
          replace h := eIstore (mi := 225) (pc := 71) (len := 2) (i := 5) rfl (by decide) h
          replace h := eIinc (mi := 225) (pc := 73) (len := 3) (i := 6) (k := 1) rfl (mLd_st1_int (by decide) (mLd_st1_int (by decide) l6)) (by decide) h
          replace h := eGoto (mi := 225) (pc := 76) (len := 3) (t := 7) rfl rfl h
          have of1 : offS M (stgF M s t) now (ordF M (a + kk)) = true := eof.symm.trans c3
          have hlk1 : (∀ d, d < 40 → iv N5 219 d = b2 (lkN (offS M (stgF M s t) now) (ordF M) a q (kk + 1) d)) := fun d hd => by
            rw [lkN_s1 of1, eN5]
            by_cases c : ordF M (a + kk) = d
            · rw [decide_eq_true c, Bool.or_true, ← c, ← en]
              exact iv_put_eq hS (by decide) (by decide) (by show ((iv N 217 k.toInt.toNat)).toInt.toNat < 40; omega)
            · rw [decide_eq_false c, Bool.or_false, iv_put_ne (Or.inr (by omega))]
              exact hlk d hd
          have hb : (bstN (offS M (stgF M s t) now) (btF M W s t 98) (ordF M) a kk) = none := by
            cases qb : (bstN (offS M (stgF M s t) now) (btF M W s t 98) (ordF M) a kk) with
            | none => rfl
            | some b =>
              have br := bstN_rng _ _ qb
              have ob : ordF M b < n0 := by rw [hn]; exact ordC_lt hO (by omega)
              have bi : x.toInt = (ordF M b : Int) := by rw [hx, qb]; exact i32_natI (by omega)
              omega
          exact ih (kk + 1) (mLd_st1_ref (by decide) (mLd_st1_ref (by decide) (mLd_st1_ref (by decide) l0))) (mLd_st1_int (by decide) (mLd_st1_int (by decide) (mLd_st1_int (by decide) l1))) (mLd_st1_int (by decide) (mLd_st1_int (by decide) (mLd_st1_int (by decide) l2))) (mLd_st1_int (by decide) (mLd_st1_int (by decide) (mLd_st1_int (by decide) l3))) (mLd_st1_int (by decide) (mLd_st1_int (by decide) (mLd_st1_int (by decide) l4))) (mLd_st1_int (by decide) mLd_st1_i) mLd_st1_i ek (by omega) (by rw [bstN_s1 of1 hb]; show (iv N 217 k.toInt.toNat) = Int32.ofNat (ordF M (a + kk)); rw [← en]; exact (i32_natR (by omega)).symm) hCN5 fzN5 hlk1 h
        · replace c7 : ¬ x.toInt = (-1) := mC_eq.2 c7
          replace h := eAload (mi := 225) (pc := 54) (len := 1) (i := 0) rfl (mLd_st1_ref (by decide) l0) h
          replace h := eIload (mi := 225) (pc := 55) (len := 1) (i := 1) rfl (mLd_st1_int (by decide) l1) h
          replace h := eIload (mi := 225) (pc := 56) (len := 2) (i := 5) rfl (mLd_st1_int (by decide) l5) h
          replace h := eIload (mi := 225) (pc := 58) (len := 2) (i := 7) rfl mLd_st1_i h
          replace h := eIload (mi := 225) (pc := 60) (len := 1) (i := 2) rfl (mLd_st1_int (by decide) l2) h
          replace h := eConst (mi := 225) (pc := 61) (len := 2) (v := 98) rfl h
          obtain ⟨r8, N9, g10, h⟩ := eCall (mi := 225) (pc := 63) (len := 3) (j := 220) (as := [.ref 181, .int s, .int x, .int (iv N 217 k.toInt.toNat), .int t, .int (98 : Int32)]) (rest := []) rfl (Or.inr (Or.inl rfl)) (by decide) rfl rfl h
          have of1 : offS M (stgF M s t) now (ordF M (a + kk)) = true := eof.symm.trans c3
          have hlk1 : (∀ d, d < 40 → iv N5 219 d = b2 (lkN (offS M (stgF M s t) now) (ordF M) a q (kk + 1) d)) := fun d hd => by
            rw [lkN_s1 of1, eN5]
            by_cases c : ordF M (a + kk) = d
            · rw [decide_eq_true c, Bool.or_true, ← c, ← en]
              exact iv_put_eq hS (by decide) (by decide) (by show ((iv N 217 k.toInt.toNat)).toInt.toNat < 40; omega)
            · rw [decide_eq_false c, Bool.or_false, iv_put_ne (Or.inr (by omega))]
              exact hlk d hd
          obtain ⟨b, hb⟩ : ∃ b, (bstN (offS M (stgF M s t) now) (btF M W s t 98) (ordF M) a kk) = some b := by
            cases qb : (bstN (offS M (stgF M s t) now) (btF M W s t 98) (ordF M) a kk) with
            | some b => exact ⟨b, rfl⟩
            | none => exact absurd (by rw [hx, qb]; rfl) c7
          have br := bstN_rng _ _ hb
          have ob : ordF M b < n0 := by rw [hn]; exact ordC_lt hO (by omega)
          have bi : x.toInt = (ordF M b : Int) := by rw [hx, hb]; exact i32_natI (by omega)
          have bt : x.toInt.toNat = ordF M b := by omega
          obtain ⟨erN9, hSN9, fdN9⟩ := does_en (lt := 98) hS6 hCN5.2.1 hCN5.2.2.1 hW hCN5.2.2.2.1 hs hk0.1 (by unfold lwK; omega) (by omega) (by rw [bt]; exact ob) (by rw [en]; exact on) hd9 ht rfl g10
          rw [erN9] at h
          have fzN9 : FzB N0 N9 := fzN5.tr (FzB.d fdN9)
          have hCN9 := RC_w hCN5 hSN9 (FzW.b (FzB.d fdN9))
          rcases eIf (mi := 225) (pc := 66) (len := 3) (t := 73) rfl rfl h with ⟨c11, h⟩ | ⟨c11, h⟩
          · replace c11 : (btF M W s t 98 x.toInt.toNat (iv N 217 k.toInt.toNat).toInt.toNat) = false := mB_eq.1 c11
            replace h := eIinc (mi := 225) (pc := 73) (len := 3) (i := 6) (k := 1) rfl (mLd_st1_int (by decide) l6) (by decide) h
            replace h := eGoto (mi := 225) (pc := 76) (len := 3) (t := 7) rfl rfl h
            rw [bt, en] at c11
            have hlk2 : (∀ d, d < 40 → iv N9 219 d = b2 (lkN (offS M (stgF M s t) now) (ordF M) a q (kk + 1) d)) := fun d hd => by rw [show iv N9 219 d = iv N5 219 d by unfold iv; rw [fdN9 219 d (by decide) (by decide)]]; exact hlk1 d hd
            exact ih (kk + 1) (mLd_st1_ref (by decide) (mLd_st1_ref (by decide) l0)) (mLd_st1_int (by decide) (mLd_st1_int (by decide) l1)) (mLd_st1_int (by decide) (mLd_st1_int (by decide) l2)) (mLd_st1_int (by decide) (mLd_st1_int (by decide) l3)) (mLd_st1_int (by decide) (mLd_st1_int (by decide) l4)) (mLd_st1_int (by decide) (mLd_st1_int (by decide) l5)) mLd_st1_i ek (by omega) (by rw [bstN_s2 of1 hb, c11]; show x = obD M (some b); rw [← hb]; exact hx) hCN9 fzN9 hlk2 h
          · replace c11 : (btF M W s t 98 x.toInt.toNat (iv N 217 k.toInt.toNat).toInt.toNat) = true := mB_eq.2 c11
            replace h := eIload (mi := 225) (pc := 69) (len := 2) (i := 7) rfl mLd_st1_i h
            replace h := eIstore (mi := 225) (pc := 71) (len := 2) (i := 5) rfl (by decide) h
            replace h := eIinc (mi := 225) (pc := 73) (len := 3) (i := 6) (k := 1) rfl (mLd_st1_int (by decide) (mLd_st1_int (by decide) l6)) (by decide) h
            replace h := eGoto (mi := 225) (pc := 76) (len := 3) (t := 7) rfl rfl h
            rw [bt, en] at c11
            have hlk2 : (∀ d, d < 40 → iv N9 219 d = b2 (lkN (offS M (stgF M s t) now) (ordF M) a q (kk + 1) d)) := fun d hd => by rw [show iv N9 219 d = iv N5 219 d by unfold iv; rw [fdN9 219 d (by decide) (by decide)]]; exact hlk1 d hd
            exact ih (kk + 1) (mLd_st1_ref (by decide) (mLd_st1_ref (by decide) (mLd_st1_ref (by decide) l0))) (mLd_st1_int (by decide) (mLd_st1_int (by decide) (mLd_st1_int (by decide) l1))) (mLd_st1_int (by decide) (mLd_st1_int (by decide) (mLd_st1_int (by decide) l2))) (mLd_st1_int (by decide) (mLd_st1_int (by decide) (mLd_st1_int (by decide) l3))) (mLd_st1_int (by decide) (mLd_st1_int (by decide) (mLd_st1_int (by decide) l4))) (mLd_st1_int (by decide) mLd_st1_i) mLd_st1_i ek (by omega) (by rw [bstN_s2 of1 hb, c11]; show (iv N 217 k.toInt.toNat) = Int32.ofNat (ordF M (a + kk)); rw [← en]; exact (i32_natR (by omega)).symm) hCN9 fzN9 hlk2 h
      · replace c3 : rOffd N (iv N 217 k.toInt.toNat) s t now = false := mB_ne.2 c3
        replace h := eGoto (mi := 225) (pc := 37) (len := 3) (t := 73) rfl rfl h
        replace h := eIinc (mi := 225) (pc := 73) (len := 3) (i := 6) (k := 1) rfl (mLd_st1_int (by decide) l6) (by decide) h
        replace h := eGoto (mi := 225) (pc := 76) (len := 3) (t := 7) rfl rfl h
        have of0 : offS M (stgF M s t) now (ordF M (a + kk)) = false := eof.symm.trans c3
        exact ih (kk + 1) (mLd_st1_ref (by decide) (mLd_st1_ref (by decide) l0)) (mLd_st1_int (by decide) (mLd_st1_int (by decide) l1)) (mLd_st1_int (by decide) (mLd_st1_int (by decide) l2)) (mLd_st1_int (by decide) (mLd_st1_int (by decide) l3)) (mLd_st1_int (by decide) (mLd_st1_int (by decide) l4)) (mLd_st1_int (by decide) (mLd_st1_int (by decide) l5)) mLd_st1_i ek (by omega) (by rw [bstN_s0 of0]; exact hx) hC fz (fun d hd => by rw [lkN_s0 of0]; exact hlk d hd) h
theorem bst_en {M : Mem} {W : Nat → WL} {n0 : Nat} {s t now : Int32} {a : Nat} {q : Nat → Bool} (hn : n0 = nC M) (hO : ordC M) (hW : lwOk M W) (hs : s.toInt.toNat < 8) (hk0 : 0 ≤ (iv M 6 s.toInt.toNat).toInt ∧ (iv M 6 s.toInt.toNat).toInt ≤ 2) (hd9 : ∀ e, e < n0 → (iv M (10 + e) 3).toInt ≤ 999) (ht : t.toInt < 1000) {N : Mem} {f : Int32} (hf : f.toInt = (a : Int)) (ha : a ≤ n0) (hC : RCw M N n0) (hlk : ∀ d, d < 40 → iv N 219 d = b2 (q d)) {n d : Nat} {r : Option Value} {M1 : Mem} (h : En n d 225 0 (lv_args 0 [.ref 181, .int s, .int t, .int now, .int f]) [] N r M1) : r = some (.int (obD M (bstN (offS M (stgF M s t) now) (btF M W s t 98) (ordF M) a (n0 - a)))) ∧ RCw M M1 n0 ∧ FzB N M1 ∧ (∀ d, d < 40 → iv M1 219 d = b2 (lkN (offS M (stgF M s t) now) (ordF M) a q (n0 - a) d)) := by
  replace h := eConst (mi := 225) (pc := 0) (len := 1) (v := (-1)) rfl h
  replace h := eIstore (mi := 225) (pc := 1) (len := 2) (i := 5) rfl (by decide) h
  replace h := eIload (mi := 225) (pc := 3) (len := 2) (i := 4) rfl rfl h
  replace h := eIstore (mi := 225) (pc := 5) (len := 2) (i := 6) rfl (by decide) h
  exact bst_lp hn hO hW hs hk0 hd9 ht _ 0 rfl rfl rfl rfl rfl rfl rfl (by omega) (by omega) rfl hC FzB.rf hlk h
theorem po_lp {M N : Mem} {n0 b : Nat} {x : Int32} (hn : n0 = nC M) (hO : ordC M) (hC : RCw M N n0) (hb : b < n0) (hx : x.toInt = (ordF M b : Int)) : ∀ (n : Nat) {d : Nat} {L : MLoc} {r : Option Value} {M1 : Mem} {k : Int32}, mLd L 0 = some (.ref 181) → mLd L 1 = some (.int x) → mLd L 2 = some (.int k) → 0 ≤ k.toInt → k.toInt ≤ (b : Int) → En n d 226 2 L [] N r M1 → r = some (.int (Int32.ofNat b)) ∧ M1 = N := by
  intro n
  induction n with
  | zero => intro d L r M1 k _ _ _ _ _ h; exact (En.zero (mi := 226) (pc := 2) (len := 1) rfl h).elim
  | succ n ih =>
    intro d L r M1 k l0 l1 l2 k0 kb h
    have hS := hC.1
    have n40 : n0 ≤ 40 := hC.2.1.1.1
    have ek : (iv N 217 k.toInt.toNat).toInt = (ordF M k.toInt.toNat : Int) := hC.2.2.2.2.1 _ (by omega)
    replace h := eAloadS (mi := 226) (pc := 2) (len := 1) (i := 0) rfl l0 h
    replace h := eGetR (a := 181) (j := 1150) (g := 217) hS (by decide) (by decide) rfl rfl rfl (mi := 226) (pc := 3) (len := 3) rfl h
    replace h := eIload (mi := 226) (pc := 6) (len := 1) (i := 2) rfl l2 h
    obtain ⟨bd1, h⟩ := eIald (x := k) hS (a := 217) (by decide) (by decide) rfl (mi := 226) (pc := 7) (len := 1) rfl h
    replace h := eIload (mi := 226) (pc := 8) (len := 1) (i := 1) rfl l1 h
    rcases eIc (mi := 226) (pc := 9) (len := 3) (t := 19) rfl rfl h with ⟨c2, h⟩ | ⟨c2, h⟩
    · replace c2 : (iv N 217 k.toInt.toNat).toInt = x.toInt := mC_eq.1 c2
      replace h := eIload (mi := 226) (pc := 19) (len := 1) (i := 2) rfl l2 h
      obtain ⟨e1, e2⟩ := eRetI (mi := 226) (pc := 20) (len := 1) rfl h
      have q : ordF M k.toInt.toNat = ordF M b := by have := c2; omega
      have q2 : k.toInt.toNat = b := knP_inj hO.2.1.2 (a := k.toInt.toNat) (b := b) (by show k.toInt.toNat < nC M; omega) (by show b < nC M; omega) q
      rw [← q2, i32_natR k0]
      exact ⟨e1, e2⟩
    · replace c2 : ¬ (iv N 217 k.toInt.toNat).toInt = x.toInt := mC_eq.2 c2
      replace h := eIload (mi := 226) (pc := 12) (len := 1) (i := 2) rfl l2 h
      replace h := eConst (mi := 226) (pc := 13) (len := 1) (v := 1) rfl h
      replace h := eAdd (mi := 226) (pc := 14) (len := 1) rfl h
      replace h := eIstore (mi := 226) (pc := 15) (len := 1) (i := 2) rfl (by decide) h
      replace h := eGoto (mi := 226) (pc := 16) (len := 3) (t := 2) rfl rfl h
      have nb : k.toInt ≠ (b : Int) := fun q => c2 (by rw [ek, hx, show k.toInt.toNat = b by omega])
      have ek1 : (k + 1).toInt = k.toInt + 1 := i32_inc k0 (by omega)
      exact ih (k := k + 1) (mLd_st1_ref (by decide) l0) (mLd_st1_int (by decide) l1) mLd_st1_i (by omega) (by omega) h
theorem po_en {M N : Mem} {n0 b : Nat} {x : Int32} (hn : n0 = nC M) (hO : ordC M) (hC : RCw M N n0) (hb : b < n0) (hx : x.toInt = (ordF M b : Int)) {n d : Nat} {r : Option Value} {M1 : Mem} (h : En n d 226 0 (lv_args 0 [.ref 181, .int x]) [] N r M1) : r = some (.int (Int32.ofNat b)) ∧ M1 = N := by
  replace h := eConst (mi := 226) (pc := 0) (len := 1) (v := 0) rfl h
  replace h := eIstore (mi := 226) (pc := 1) (len := 1) (i := 2) rfl (by decide) h
  exact po_lp hn hO hC hb hx _ (k := 0) rfl rfl rfl (Int.le_refl 0) (by show (0 : Int) ≤ (b : Int); omega) h
theorem wk_z {M N0 : Mem} {n0 : Nat} {s t : Int32} : ∀ (n : Nat) {d : Nat} {L : MLoc} {N : Mem} {r : Option Value} {M1 : Mem} {k : Int32}, mLd L 0 = some (.ref 181) → mLd L 1 = some (.int s) → mLd L 2 = some (.int t) → mLd L 3 = some (.int k) → 0 ≤ k.toInt → k.toInt ≤ 40 → RCw M N n0 → FzW N0 N → (∀ i, i < k.toInt.toNat → iv N 219 i = 0) → En n d 227 2 L [] N r M1 → ∃ L' N' y, ((mLd L' 0 = some (.ref 181) ∧ mLd L' 1 = some (.int s) ∧ mLd L' 2 = some (.int t)) ∧ RCw M N' n0 ∧ FzW N0 N' ∧ (∀ i, i < 40 → iv N' 219 i = 0) ∧ y = k) ∧ En n d 227 21 L' [] N' r M1 := by
  intro n
  induction n with
  | zero => intro d L N r M1 k _ _ _ _ _ _ _ _ _ h; exact (En.zero (mi := 227) (pc := 2) (len := 1) rfl h).elim
  | succ n ih =>
    intro d L N r M1 k l0 l1 l2 l3 k0 k9 hC fz hz h
    have hS := hC.1
    replace h := eIloadS (mi := 227) (pc := 2) (len := 1) (i := 3) rfl l3 h
    replace h := eConst (mi := 227) (pc := 3) (len := 2) (v := 40) rfl h
    rcases eIc (mi := 227) (pc := 5) (len := 3) (t := 21) rfl rfl h with ⟨c1, h⟩ | ⟨c1, h⟩
    · replace c1 : ¬ k.toInt < 40 := mC_ge.1 c1
      have q40 : ¬ k.toInt < 40 := c1
      exact ⟨L, N, k, ⟨⟨l0, l1, l2⟩, hC, fz, fun i hi => hz i (by omega), rfl⟩, h.up (Nat.le_succ n)⟩
    · replace c1 : k.toInt < 40 := mC_ge.2 c1
      replace h := eAload (mi := 227) (pc := 8) (len := 1) (i := 0) rfl l0 h
      replace h := eGetR (a := 181) (j := 1152) (g := 219) hS (by decide) (by decide) rfl rfl rfl (mi := 227) (pc := 9) (len := 3) rfl h
      replace h := eIload (mi := 227) (pc := 12) (len := 1) (i := 3) rfl l3 h
      replace h := eConst (mi := 227) (pc := 13) (len := 1) (v := 0) rfl h
      obtain ⟨N3, eN3⟩ : ∃ X_, X_ = mPut N 219 k.toInt.toNat (.int (0 : Int32)) := ⟨_, rfl⟩
      obtain ⟨bd2, h⟩ := eBst (x := k) (N := N3) hS (a := 219) (by decide) (by decide) (Or.inl rfl) eN3 (mi := 227) (pc := 14) (len := 1) rfl h
      have hS4 : Sh N3 := by rw [eN3]; exact hS.put (by decide) (by decide) rfl
      have fpN3 : FzW N N3 := by rw [eN3]; exact FzW.put (by omega)
      have fzN3 : FzW N0 N3 := fz.tr fpN3
      have hCN3 := RC_w hC hS4 fpN3
      replace h := eIinc (mi := 227) (pc := 15) (len := 3) (i := 3) (k := 1) rfl l3 (by decide) h
      replace h := eGoto (mi := 227) (pc := 18) (len := 3) (t := 2) rfl rfl h
      have ek : (k + 1).toInt = k.toInt + 1 := i32_inc k0 (by omega)
      have q40 : k.toInt < 40 := c1
      have en : (k + 1).toInt.toNat = k.toInt.toNat + 1 := by omega
      have p1 : ∀ i, i < (k + 1).toInt.toNat → iv N3 219 i = 0 := fun i hi => by
        rw [en] at hi
        rw [eN3]
        by_cases c : i = k.toInt.toNat
        · rw [c]; exact iv_put_eq hS (by decide) (by decide) (by show k.toInt.toNat < 40; omega)
        · rw [iv_put_ne (Or.inr c)]; exact hz i (by omega)
      obtain ⟨L9, N9, y9, ⟨w1, w2, w3, w4, _⟩, w5⟩ := ih (k := k + 1) (mLd_st1_ref (by decide) l0) (mLd_st1_int (by decide) l1) (mLd_st1_int (by decide) l2) mLd_st1_i (by omega) (by omega) hCN3 fzN3 p1 h
      exact ⟨L9, N9, k, ⟨w1, w2, w3, w4, rfl⟩, w5.up (Nat.le_succ n)⟩
/-- what the reference holds of a chain -/
def chnR (N : Mem) (R : FL) : Prop := (iv N 181 48).toInt = (R.2.1.length : Int) ∧ (∀ i, i < R.2.1.length → (iv N 218 i).toInt = (nthL R.2.1 i : Int)) ∧ ∀ d, d < 40 → iv N 219 d = b2 (R.2.2 d)
theorem wk_lp {M N0 : Mem} {W : Nat → WL} {n0 : Nat} {s t : Int32} (hn : n0 = nC M) (hO : ordC M) (hW : lwOk M W) (hs : s.toInt.toNat < 8) (hk0 : 0 ≤ (iv M 6 s.toInt.toNat).toInt ∧ (iv M 6 s.toInt.toNat).toInt ≤ 2) (hd9 : ∀ e, e < n0 → (iv M (10 + e) 3).toInt ≤ 999) (ht : t.toInt < 1000) : ∀ (n : Nat) {d : Nat} {L : MLoc} {N : Mem} {r : Option Value} {M1 : Mem} {now x : Int32} (a : Nat) (l : List Nat) (q : Nat → Bool), mLd L 0 = some (.ref 181) → mLd L 1 = some (.int s) → mLd L 2 = some (.int t) → mLd L 3 = some (.int now) → mLd L 4 = some (.int x) → a ≤ n0 → l.length ≤ a → x = obD M (bstN (offS M (stgF M s t) now) (btF M W s t 98) (ordF M) a (n0 - a)) → RCw M N n0 → FzW N0 N → (iv N 181 48).toInt = (l.length : Int) → (∀ i, i < l.length → (iv N 218 i).toInt = (nthL l i : Int)) → (∀ d, d < 40 → iv N 219 d = b2 (lkN (offS M (stgF M s t) now) (ordF M) a q (n0 - a) d)) → En n d 227 43 L [] N r M1 → r = some (.int (flw (offS M (stgF M s t)) (btF M W s t 98) (fun d => iv M (10 + d) 1) (ordF M) (nC M) now a l q).1) ∧ RCw M M1 n0 ∧ FzW N0 M1 ∧ chnR M1 (flw (offS M (stgF M s t)) (btF M W s t 98) (fun d => iv M (10 + d) 1) (ordF M) (nC M) now a l q) := by
  intro n
  induction n with
  | zero => intro d L N r M1 now x a l q _ _ _ _ _ _ _ _ _ _ _ _ _ h; exact (En.zero (mi := 227) (pc := 43) (len := 2) rfl h).elim
  | succ n ih =>
    intro d L N r M1 now x a l q l0 l1 l2 l3 l4 ha hl hx hC fz h48 hch hlk h
    have hS := hC.1
    have n40 : n0 ≤ 40 := hC.2.1.1.1
    replace h := eIloadS (mi := 227) (pc := 43) (len := 2) (i := 4) rfl l4 h
    replace h := eConst (mi := 227) (pc := 45) (len := 1) (v := (-1)) rfl h
    rcases eIc (mi := 227) (pc := 46) (len := 3) (t := 98) rfl rfl h with ⟨c1, h⟩ | ⟨c1, h⟩
    · replace c1 : x.toInt = (-1) := mC_eq.1 c1
      replace h := eIload (mi := 227) (pc := 98) (len := 1) (i := 3) rfl l3 h
      obtain ⟨e1, e2⟩ := eRetI (mi := 227) (pc := 99) (len := 1) rfl h
      have hb : (bstN (offS M (stgF M s t) now) (btF M W s t 98) (ordF M) a (n0 - a)) = none := by
        cases qb : (bstN (offS M (stgF M s t) now) (btF M W s t 98) (ordF M) a (n0 - a)) with
        | none => rfl
        | some b =>
          have br := bstN_rng _ _ qb
          have ob : ordF M b < n0 := by rw [hn]; exact ordC_lt hO (by omega)
          have bi : x.toInt = (ordF M b : Int) := by rw [hx, qb]; exact i32_natI (by omega)
          have := c1
          omega
      rw [hn] at hb hlk
      rw [flw_none hb, e2]
      exact ⟨e1, hC, fz, h48, hch, hlk⟩
    · replace c1 : ¬ x.toInt = (-1) := mC_eq.2 c1
      obtain ⟨b, hb⟩ : ∃ b, (bstN (offS M (stgF M s t) now) (btF M W s t 98) (ordF M) a (n0 - a)) = some b := by
        cases qb : (bstN (offS M (stgF M s t) now) (btF M W s t 98) (ordF M) a (n0 - a)) with
        | some b => exact ⟨b, rfl⟩
        | none => exact absurd (by rw [hx, qb]; rfl) c1
      have br := bstN_rng _ _ hb
      have ob : ordF M b < n0 := by rw [hn]; exact ordC_lt hO (by omega)
      have bi : x.toInt = (ordF M b : Int) := by rw [hx, hb]; exact i32_natI (by omega)
      have bt : x.toInt.toNat = ordF M b := by omega
      have el : (iv N 181 48).toInt.toNat = l.length := by omega
      have l40 : l.length < 40 := by omega
      replace h := eAload (mi := 227) (pc := 49) (len := 1) (i := 0) rfl l0 h
      replace h := eGetR (a := 181) (j := 1151) (g := 218) hS (by decide) (by decide) rfl rfl rfl (mi := 227) (pc := 50) (len := 3) rfl h
      replace h := eAload (mi := 227) (pc := 53) (len := 1) (i := 0) rfl l0 h
      replace h := eGetI (a := 181) (j := 1148) hS (by decide) (by decide) rfl (mi := 227) (pc := 54) (len := 3) rfl h
      replace h := eIload (mi := 227) (pc := 57) (len := 2) (i := 4) rfl l4 h
      obtain ⟨N3, eN3⟩ : ∃ X_, X_ = mPut N 218 (iv N 181 48).toInt.toNat (.int x) := ⟨_, rfl⟩
      obtain ⟨bd2, h⟩ := eIast (x := (iv N 181 48)) (N := N3) hS (a := 218) (by decide) (by decide) eN3 (mi := 227) (pc := 59) (len := 1) rfl h
      have hS4 : Sh N3 := by rw [eN3]; exact hS.put (by decide) (by decide) rfl
      have fpN3 : FzW N N3 := by rw [eN3]; exact FzW.put (by omega)
      have fzN3 : FzW N0 N3 := fz.tr fpN3
      have hCN3 := RC_w hC hS4 fpN3
      replace h := eAload (mi := 227) (pc := 60) (len := 1) (i := 0) rfl l0 h
      replace h := eAload (mi := 227) (pc := 61) (len := 1) (i := 0) rfl l0 h
      replace h := eGetI (a := 181) (j := 1148) hS4 (by decide) (by decide) rfl (mi := 227) (pc := 62) (len := 3) rfl h
      replace h := eConst (mi := 227) (pc := 65) (len := 1) (v := 1) rfl h
      replace h := eAdd (mi := 227) (pc := 66) (len := 1) rfl h
      obtain ⟨N5, eN5⟩ : ∃ X_, X_ = mPut N3 181 48 (.int ((iv N3 181 48) + (1 : Int32))) := ⟨_, rfl⟩
      replace h := ePutE (a := 181) (f := 48) (N := N5) rfl eN5 (mi := 227) (pc := 67) (len := 3) (j := 1148) rfl h
      have hS6 : Sh N5 := by rw [eN5]; exact hS4.put (by decide) (by decide) rfl
      have fpN5 : FzW N3 N5 := by rw [eN5]; exact FzW.put (by omega)
      have fzN5 : FzW N0 N5 := fzN3.tr fpN5
      have hCN5 := RC_w hCN3 hS6 fpN5
      replace h := eAload (mi := 227) (pc := 70) (len := 1) (i := 0) rfl l0 h
      replace h := eGetR (a := 181) (j := 1106) (g := 186) hS6 (by decide) (by decide) rfl rfl rfl (mi := 227) (pc := 71) (len := 3) rfl h
      replace h := eIload (mi := 227) (pc := 74) (len := 2) (i := 4) rfl l4 h
      obtain ⟨bd7, h⟩ := eIald (x := x) hS6 (a := 186) (by decide) (by decide) rfl (mi := 227) (pc := 76) (len := 1) rfl h
      replace h := eIstore (mi := 227) (pc := 77) (len := 1) (i := 3) rfl (by decide) h
      replace h := eAload (mi := 227) (pc := 78) (len := 1) (i := 0) rfl (mLd_st1_ref (by decide) l0) h
      replace h := eIload (mi := 227) (pc := 79) (len := 1) (i := 1) rfl (mLd_st1_int (by decide) l1) h
      replace h := eIload (mi := 227) (pc := 80) (len := 1) (i := 2) rfl (mLd_st1_int (by decide) l2) h
      replace h := eIload (mi := 227) (pc := 81) (len := 1) (i := 3) rfl mLd_st1_i h
      replace h := eAload (mi := 227) (pc := 82) (len := 1) (i := 0) rfl (mLd_st1_ref (by decide) l0) h
      replace h := eIload (mi := 227) (pc := 83) (len := 2) (i := 4) rfl (mLd_st1_int (by decide) l4) h
      obtain ⟨r8, N9, g10, h⟩ := eCall (mi := 227) (pc := 85) (len := 3) (j := 226) (as := [.ref 181, .int x]) (rest := [.int (iv N5 186 x.toInt.toNat), .int t, .int s, .ref 181]) rfl (Or.inr (Or.inl rfl)) (by decide) rfl rfl h
      obtain ⟨erN9, eMN9⟩ := po_en (b := b) hn hO hCN5 (by omega) bi g10
      rw [erN9, eMN9] at h
      replace h := eConst (mi := 227) (pc := 88) (len := 1) (v := 1) rfl h
      replace h := eAdd (mi := 227) (pc := 89) (len := 1) rfl h
      obtain ⟨r11, N12, g13, h⟩ := eCall (mi := 227) (pc := 90) (len := 3) (j := 225) (as := [.ref 181, .int s, .int t, .int (iv N5 186 x.toInt.toNat), .int ((Int32.ofNat b) + (1 : Int32))]) (rest := []) rfl (Or.inr (Or.inl rfl)) (by decide) rfl rfl h
      have ent : (iv N5 186 x.toInt.toNat) = iv M (10 + ordF M b) 1 := by rw [bt]; exact AL_1 hCN5.2.1.1 ob
      have ef : (Int32.ofNat b + 1).toInt = ((b + 1 : Nat) : Int) := by rw [i32_inc (by rw [i32_natI (by omega)]; omega) (by rw [i32_natI (by omega)]; omega), i32_natI (by omega)]; omega
      have hlk1 : (∀ d, d < 40 → iv N5 219 d = b2 (lkN (offS M (stgF M s t) now) (ordF M) a q (n0 - a) d)) := fun d hd => by rw [eN5, iv_put_ne (Or.inl (by decide)), eN3, iv_put_ne (Or.inl (by decide))]; exact hlk d hd
      obtain ⟨erN12, hCN12, fbN12, hlkN12⟩ := bst_en (a := b + 1) (q := lkN (offS M (stgF M s t) now) (ordF M) a q (n0 - a)) hn hO hW hs hk0 hd9 ht ef (by omega) hCN5 hlk1 g13
      rw [erN12] at h
      have fzN12 : FzW N0 N12 := fzN5.tr (FzW.b fbN12)
      replace h := eIstore (mi := 227) (pc := 93) (len := 2) (i := 4) rfl (by decide) h
      replace h := eGoto (mi := 227) (pc := 95) (len := 3) (t := 43) rfl rfl h
      have fq : ∀ c i, c ≠ 215 → c ≠ 216 → c ≠ 219 → iv N12 c i = iv N5 c i := fun c i q1 q2 q3 => by unfold iv; rw [fbN12 c i q1 q2 q3]
      have f48 : iv N3 181 48 = iv N 181 48 := by rw [eN3]; exact iv_put_ne (Or.inl (by decide))
      have g48 : (iv N12 181 48).toInt = ((l ++ [ordF M b]).length : Int) := by
        rw [fq 181 48 (by decide) (by decide) (by decide), len_sn, eN5, iv_put_eq hS4 (by decide) (by decide) (by decide), f48, i32_inc (by omega) (by omega)]
        omega
      have p1 : ∀ i, i < (l ++ [ordF M b]).length → (iv N12 218 i).toInt = (nthL (l ++ [ordF M b]) i : Int) := fun i hi => by
        rw [len_sn] at hi
        rw [fq 218 i (by decide) (by decide) (by decide), eN5, iv_put_ne (Or.inl (by decide)), eN3]
        by_cases c : i = l.length
        · rw [c, nthL_eq, ← el, iv_put_eq hS (by decide) (by decide) (by rw [el]; exact l40)]
          exact bi
        · rw [nthL_lt l i (by omega), iv_put_ne (Or.inr (by omega))]
          exact hch i (by omega)
      have z := ih (b + 1) (l ++ [ordF M b]) (lkN (offS M (stgF M s t) now) (ordF M) a q (n0 - a)) (mLd_st1_ref (by decide) (mLd_st1_ref (by decide) l0)) (mLd_st1_int (by decide) (mLd_st1_int (by decide) l1)) (mLd_st1_int (by decide) (mLd_st1_int (by decide) l2)) (mLd_st1_int (by decide) mLd_st1_i) mLd_st1_i (by omega) (by rw [len_sn]; omega) rfl hCN12 fzN12 g48 p1 hlkN12 h
      rw [ent, hn] at z
      rw [hn] at hb
      rw [flw_some hb]
      rw [← hn] at z ⊢
      exact z
theorem wk_en {M : Mem} {W : Nat → WL} {n0 : Nat} {s t : Int32} (hn : n0 = nC M) (hO : ordC M) (hW : lwOk M W) (hs : s.toInt.toNat < 8) (hk0 : 0 ≤ (iv M 6 s.toInt.toNat).toInt ∧ (iv M 6 s.toInt.toNat).toInt ≤ 2) (hd9 : ∀ e, e < n0 → (iv M (10 + e) 3).toInt ≤ 999) (ht : t.toInt < 1000) {N : Mem} (hC : RCw M N n0) {n d : Nat} {r : Option Value} {M1 : Mem} (h : En n d 227 0 (lv_args 0 [.ref 181, .int s, .int t]) [] N r M1) : r = some (.int (holdF M W s t).1) ∧ RCw M M1 n0 ∧ FzW N M1 ∧ chnR M1 (holdF M W s t) := by
  replace h := eConst (mi := 227) (pc := 0) (len := 1) (v := 0) rfl h
  replace h := eIstore (mi := 227) (pc := 1) (len := 1) (i := 3) rfl (by decide) h
  obtain ⟨L2, N2, y2, ⟨⟨l0, l1, l2⟩, hC2, fz2, hz2, _⟩, h⟩ := wk_z (N0 := N) _ (k := 0) rfl rfl rfl rfl (by decide) (by decide) hC FzW.rf (fun i hi => absurd hi (Nat.not_lt_zero i)) h
  have hSz := hC2.1
  replace h := eAload (mi := 227) (pc := 21) (len := 1) (i := 0) rfl l0 h
  replace h := eConst (mi := 227) (pc := 22) (len := 1) (v := 0) rfl h
  obtain ⟨N1, eN1⟩ : ∃ X_, X_ = mPut N2 181 48 (.int (0 : Int32)) := ⟨_, rfl⟩
  replace h := ePutE (a := 181) (f := 48) (N := N1) rfl eN1 (mi := 227) (pc := 23) (len := 3) (j := 1148) rfl h
  have hS2 : Sh N1 := by rw [eN1]; exact hSz.put (by decide) (by decide) rfl
  have fpN1 : FzW N2 N1 := by rw [eN1]; exact FzW.put (by omega)
  have fzN1 : FzW N N1 := fz2.tr fpN1
  have hCN1 := RC_w hC2 hS2 fpN1
  replace h := eAload (mi := 227) (pc := 26) (len := 1) (i := 0) rfl l0 h
  replace h := eGetR (a := 181) (j := 1103) (g := 183) hS2 (by decide) (by decide) rfl rfl rfl (mi := 227) (pc := 27) (len := 3) rfl h
  replace h := eIload (mi := 227) (pc := 30) (len := 1) (i := 1) rfl l1 h
  obtain ⟨bd3, h⟩ := eIald (x := s) hS2 (a := 183) (by decide) (by decide) rfl (mi := 227) (pc := 31) (len := 1) rfl h
  replace h := eIstore (mi := 227) (pc := 32) (len := 1) (i := 3) rfl (by decide) h
  replace h := eAload (mi := 227) (pc := 33) (len := 1) (i := 0) rfl (mLd_st1_ref (by decide) l0) h
  replace h := eIload (mi := 227) (pc := 34) (len := 1) (i := 1) rfl (mLd_st1_int (by decide) l1) h
  replace h := eIload (mi := 227) (pc := 35) (len := 1) (i := 2) rfl (mLd_st1_int (by decide) l2) h
  replace h := eIload (mi := 227) (pc := 36) (len := 1) (i := 3) rfl mLd_st1_i h
  replace h := eConst (mi := 227) (pc := 37) (len := 1) (v := 0) rfl h
  obtain ⟨r4, N5, g6, h⟩ := eCall (mi := 227) (pc := 38) (len := 3) (j := 225) (as := [.ref 181, .int s, .int t, .int (iv N1 183 s.toInt.toNat), .int (0 : Int32)]) (rest := []) rfl (Or.inr (Or.inl rfl)) (by decide) rfl rfl h
  have hlk1 : ∀ d, d < 40 → iv N1 219 d = b2 ((fun _ => false) d) := fun d hd => by rw [eN1, iv_put_ne (Or.inl (by decide))]; exact hz2 d hd
  have eo : (iv N1 183 s.toInt.toNat) = iv M 5 s.toInt.toNat := (hCN1.2.1.1.2.2.2.2 _ hs).symm
  obtain ⟨erN5, hCN5, fbN5, hlkN5⟩ := bst_en (a := 0) (q := fun _ => false) hn hO hW hs hk0 hd9 ht rfl (Nat.zero_le _) hCN1 hlk1 g6
  rw [erN5] at h
  have fzN5 : FzW N N5 := fzN1.tr (FzW.b fbN5)
  replace h := eIstore (mi := 227) (pc := 41) (len := 2) (i := 4) rfl (by decide) h
  have p1 : (iv N5 181 48).toInt = ((([] : List Nat).length : Nat) : Int) := by
    rw [show iv N5 181 48 = iv N1 181 48 by unfold iv; rw [fbN5 181 48 (by decide) (by decide) (by decide)], eN1, iv_put_eq hSz (by decide) (by decide) (by decide)]
    rfl
  have z := wk_lp (N0 := N) hn hO hW hs hk0 hd9 ht _ 0 [] (fun _ => false) (mLd_st1_ref (by decide) (mLd_st1_ref (by decide) l0)) (mLd_st1_int (by decide) (mLd_st1_int (by decide) l1)) (mLd_st1_int (by decide) (mLd_st1_int (by decide) l2)) (mLd_st1_int (by decide) mLd_st1_i) mLd_st1_i (Nat.zero_le _) (Nat.le_refl _) rfl hCN5 fzN5 p1 (fun i hi => absurd hi (Nat.not_lt_zero i)) hlkN5 h
  rw [eo] at z
  exact z
theorem RC_of {M N N1 : Mem} {n : Nat} (hn : n = nC M) (hO : ordC M) (hA : AR M N n) (hK : knR M N n) (hP : ∀ c i, 209 ≤ c → c ≤ 214 → iv N c i = iv M c i) (h : LOO N N1 n) : RCw M N1 n := by
  obtain ⟨hS, hf, h49, hp, hpos⟩ := h
  have f : ∀ c i, c ≠ 217 → ¬ (c = 181 ∧ i = 49) → iv N1 c i = iv N c i := fun c i a b => by unfold iv; rw [hf c i a b]
  refine ⟨hS, AR_r hA (fun c i q => f c i (by omega) (by omega)), fun p hp d hd => (f 200 _ (by decide) (by omega)).trans (hK p hp d hd), fun c i a b => (f c i (by omega) (by omega)).trans (hP c i a b), fun k hk => ?_, h49⟩
  have p2 : knP (fun d => (iv M (10 + d) 3).toInt) n (fun k => (iv N1 217 k).toInt.toNat) := knP_congr (fun d hd => by rw [AL_3 hA.1 hd]) hp
  have p1 : knP (fun d => (iv M (10 + d) 3).toInt) n (ordF M) := by rw [hn]; exact hO.2.1.2
  have e : ordF M k = (iv N1 217 k).toInt.toNat := knP_uniq p1 p2 n (Nat.le_refl n) k hk
  have := hpos k hk
  omega
/-- what laying and walking change -/
def FzH (M N : Mem) : Prop := ∀ c i, (c < 200 ∨ (201 < c ∧ c < 215) ∨ 219 < c) → ¬ (c = 181 ∧ (i = 48 ∨ i = 49)) → mSlot N c i = mSlot M c i
theorem FzH.rf {M : Mem} : FzH M M := fun _ _ _ _ => rfl
theorem FzH.tr {A B C : Mem} (h : FzH A B) (h' : FzH B C) : FzH A C := fun c i p q => (h' c i p q).trans (h c i p q)
theorem FzH.k {A B : Mem} (h : FzK A B) : FzH A B := fun c i p _ => h c i (by omega) (by omega)
theorem FzH.o {A B : Mem} {n : Nat} (h : LOO A B n) : FzH A B := fun c i p q => h.2.1 c i (by omega) (by omega)
theorem FzH.w {A B : Mem} (h : FzW A B) : FzH A B := fun c i p q => h c i (by omega) (by omega) (by omega) (by omega) (by omega)
theorem FzH.si {M N : Mem} (h : FzH M N) {c i : Nat} (p : c < 200 ∨ (201 < c ∧ c < 215) ∨ 219 < c) (q : ¬ (c = 181 ∧ (i = 48 ∨ i = 49))) : iv N c i = iv M c i := by unfold iv; rw [h c i p q]
/-- the reference, as it was -/
def RSw (M N : Mem) : Prop := Sh N ∧ ∀ c i, (qLk c i ∨ (202 ≤ c ∧ c ≤ 214)) → iv N c i = iv M c i
theorem RS_h {M N N' : Mem} (h : RSw M N) (hS : Sh N') (f : FzH N N') : RSw M N' := ⟨hS, fun c i q => (f.si (by unfold qLk at q; omega) (by unfold qLk at q; omega)).trans (h.2 c i q)⟩
/-- laying, from what class and reference hold alike -/
def lysA (M : Mem) (n : Nat) : Prop := AR M M n ∧ ∀ N, Sh N → (∀ c i, qLk c i → iv N c i = iv M c i) → lysK M N n
theorem lys_en {M N : Mem} {n0 : Nat} (hB : RSw M N) (hL : lysA M n0) (hn : n0 = nC M) (hO : ordC M) {n d : Nat} {r : Option Value} {M1 : Mem} (h : En n d 228 0 (lv_args 0 [.ref 181]) [] N r M1) : r = none ∧ RCw M M1 n0 ∧ RSw M M1 ∧ FzH N M1 := by
  replace h := eAload (mi := 228) (pc := 0) (len := 1) (i := 0) rfl rfl h
  obtain ⟨r1, N2, g3, h⟩ := eCall (mi := 228) (pc := 1) (len := 3) (j := 188) (as := [.ref 181]) (rest := []) rfl (Or.inr (Or.inl rfl)) (by decide) rfl rfl h
  obtain ⟨erN2, hSN2, fkN2, hKN2⟩ := hL.2 N hB.1 (fun c i q => hB.2 c i (Or.inl q)) _ _ _ _ g3
  rw [erN2] at h
  have hA : AR M N n0 := AR_r hL.1 (fun c i q => hB.2 c i (Or.inl (by unfold qLk; omega)))
  have hAN2 := AR_r hA (fun c i q => fkN2.si (by omega) (by omega))
  have hPN2 : ∀ c i, 209 ≤ c → c ≤ 214 → iv N2 c i = iv M c i := fun c i a b => (fkN2.si (by omega) (by omega)).trans (hB.2 c i (Or.inr (by omega)))
  have fhN2 := FzH.k fkN2
  replace h := eAload (mi := 228) (pc := 4) (len := 1) (i := 0) rfl rfl h
  obtain ⟨r4, N5, g6, h⟩ := eCall (mi := 228) (pc := 5) (len := 3) (j := 223) (as := [.ref 181]) (rest := []) rfl (Or.inr (Or.inl rfl)) (by decide) rfl rfl h
  obtain ⟨erN5, hoN5⟩ := lo_en hSN2 hAN2.1.2.2.1 hAN2.1.1 g6
  rw [erN5] at h
  have hCN5 := RC_of hn hO hAN2 hKN2 hPN2 hoN5
  have fhN5 := fhN2.tr (FzH.o hoN5)
  obtain ⟨e1, e2⟩ := eRetV (mi := 228) (pc := 8) (len := 1) rfl h
  rw [e2]
  exact ⟨e1, hCN5, RS_h hB hoN5.1 fhN5, fhN5⟩
theorem hldOf_en {M N : Mem} {W : Nat → WL} {n0 : Nat} {s t : Int32} (hB : RSw M N) (hL : lysA M n0) (hn : n0 = nC M) (hO : ordC M) (hW : lwOk M W) (hs : s.toInt.toNat < 8) (hk0 : 0 ≤ (iv M 6 s.toInt.toNat).toInt ∧ (iv M 6 s.toInt.toNat).toInt ≤ 2) (hd9 : ∀ e, e < n0 → (iv M (10 + e) 3).toInt ≤ 999) (ht : t.toInt < 1000) {n d : Nat} {r : Option Value} {M1 : Mem} (h : En n d 229 0 (lv_args 0 [.ref 181, .int s, .int t]) [] N r M1) : r = some (.int (holdF M W s t).1) ∧ RSw M M1 ∧ RCw M M1 n0 ∧ chnR M1 (holdF M W s t) ∧ FzH N M1 := by
  replace h := eAload (mi := 229) (pc := 0) (len := 1) (i := 0) rfl rfl h
  obtain ⟨r1, N2, g3, h⟩ := eCall (mi := 229) (pc := 1) (len := 3) (j := 228) (as := [.ref 181]) (rest := []) rfl (Or.inr (Or.inl rfl)) (by decide) rfl rfl h
  obtain ⟨erN2, hCN2, hBN2, fhN2⟩ := lys_en hB hL hn hO g3
  rw [erN2] at h
  replace h := eAload (mi := 229) (pc := 4) (len := 1) (i := 0) rfl rfl h
  replace h := eIload (mi := 229) (pc := 5) (len := 1) (i := 1) rfl rfl h
  replace h := eIload (mi := 229) (pc := 6) (len := 1) (i := 2) rfl rfl h
  obtain ⟨r4, N5, g6, h⟩ := eCall (mi := 229) (pc := 7) (len := 3) (j := 227) (as := [.ref 181, .int s, .int t]) (rest := []) rfl (Or.inr (Or.inl rfl)) (by decide) rfl rfl h
  obtain ⟨erN5, hCN5, fwN5, hcN5⟩ := wk_en hn hO hW hs hk0 hd9 ht hCN2 g6
  rw [erN5] at h
  have hBN5 := RS_h hBN2 hCN5.1 (FzH.w fwN5)
  have fhN5 := fhN2.tr (FzH.w fwN5)
  obtain ⟨e1, e2⟩ := eRetI (mi := 229) (pc := 10) (len := 1) rfl h
  rw [e2]
  exact ⟨e1, hBN5, hCN5, hcN5, fhN5⟩

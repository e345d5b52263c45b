/-! a later deed beats an earlier one, or sheds it: the reference (printed by fn34.py) -/
/-- WidowDeedsModel.isDeadOn -/
def rDead (M : Mem) (p : Int32) (t : Int32) : Bool := (bif decide ((iv M 182 p.toInt.toNat).toInt = (-1)) then false else (bif decide (t.toInt < (iv M 182 p.toInt.toNat).toInt) then false else true))
theorem rDead_en {p : Int32} {t : Int32} {n d : Nat} {M : Mem} {r : Option Value} {M1 : Mem} (hS : Sh M) (h : En n d 176 0 (lv_args 0 [.ref 181, .int p, .int t]) [] M r M1) : r = some (.int (b2 (rDead M p t))) ∧ M1 = M := by
  replace h := eAload (mi := 176) (pc := 0) (len := 1) (i := 0) rfl rfl h
  replace h := eGetR (a := 181) (j := 1102) (g := 182) hS (by decide) (by decide) rfl rfl rfl (mi := 176) (pc := 1) (len := 3) rfl h
  replace h := eIload (mi := 176) (pc := 4) (len := 1) (i := 1) rfl rfl h
  obtain ⟨b1, h⟩ := eIald (x := p) hS (a := 182) (by decide) (by decide) rfl (mi := 176) (pc := 5) (len := 1) rfl h
  replace h := eConst (mi := 176) (pc := 6) (len := 1) (v := (-1)) rfl h
  rcases eIc (mi := 176) (pc := 7) (len := 3) (t := 24) rfl rfl h with ⟨c2, h⟩ | ⟨c2, h⟩
  · replace c2 : (iv M 182 p.toInt.toNat).toInt = (-1) := mC_eq.1 c2
    replace h := eConst (mi := 176) (pc := 24) (len := 1) (v := 0) rfl h
    obtain ⟨e1, e2⟩ := eRetI (mi := 176) (pc := 25) (len := 1) rfl h
    have e3 : rDead M p t = false := by
      unfold rDead
      simp only [decide_eq_true c2, cond_true, cond_false]
    rw [e3]
    exact ⟨e1, e2⟩
  · replace c2 : ¬ (iv M 182 p.toInt.toNat).toInt = (-1) := mC_eq.2 c2
    replace h := eAload (mi := 176) (pc := 10) (len := 1) (i := 0) rfl rfl h
    replace h := eGetR (a := 181) (j := 1102) (g := 182) hS (by decide) (by decide) rfl rfl rfl (mi := 176) (pc := 11) (len := 3) rfl h
    replace h := eIload (mi := 176) (pc := 14) (len := 1) (i := 1) rfl rfl h
    obtain ⟨b3, h⟩ := eIald (x := p) hS (a := 182) (by decide) (by decide) rfl (mi := 176) (pc := 15) (len := 1) rfl h
    replace h := eIload (mi := 176) (pc := 16) (len := 1) (i := 2) rfl rfl h
    rcases eIc (mi := 176) (pc := 17) (len := 3) (t := 24) rfl rfl h with ⟨c4, h⟩ | ⟨c4, h⟩
    · replace c4 : t.toInt < (iv M 182 p.toInt.toNat).toInt := mC_gt.1 c4
      replace h := eConst (mi := 176) (pc := 24) (len := 1) (v := 0) rfl h
      obtain ⟨e1, e2⟩ := eRetI (mi := 176) (pc := 25) (len := 1) rfl h
      have e3 : rDead M p t = false := by
        unfold rDead
        simp only [decide_eq_false c2, decide_eq_true c4, cond_true, cond_false]
      rw [e3]
      exact ⟨e1, e2⟩
    · replace c4 : ¬ t.toInt < (iv M 182 p.toInt.toNat).toInt := mC_gt.2 c4
      replace h := eConst (mi := 176) (pc := 20) (len := 1) (v := 1) rfl h
      replace h := eGoto (mi := 176) (pc := 21) (len := 3) (t := 25) rfl rfl h
      obtain ⟨e1, e2⟩ := eRetI (mi := 176) (pc := 25) (len := 1) rfl h
      have e3 : rDead M p t = true := by
        unfold rDead
        simp only [decide_eq_false c2, decide_eq_false c4, cond_true, cond_false]
      rw [e3]
      exact ⟨e1, e2⟩
/-- WidowDeedsModel.isAhead -/
def rAhd (M : Mem) (x : Int32) (y : Int32) : Bool := (bif decide ((iv M 188 x.toInt.toNat).toInt < (iv M 188 y.toInt.toNat).toInt) then true else (bif decide ((iv M 188 x.toInt.toNat).toInt = (iv M 188 y.toInt.toNat).toInt) then (bif decide (x.toInt < y.toInt) then true else false) else false))
theorem rAhd_en {x : Int32} {y : Int32} {n d : Nat} {M : Mem} {r : Option Value} {M1 : Mem} (hS : Sh M) (h : En n d 179 0 (lv_args 0 [.ref 181, .int x, .int y]) [] M r M1) : r = some (.int (b2 (rAhd M x y))) ∧ M1 = M := by
  replace h := eAload (mi := 179) (pc := 0) (len := 1) (i := 0) rfl rfl h
  replace h := eGetR (a := 181) (j := 1108) (g := 188) hS (by decide) (by decide) rfl rfl rfl (mi := 179) (pc := 1) (len := 3) rfl h
  replace h := eIload (mi := 179) (pc := 4) (len := 1) (i := 1) rfl rfl h
  obtain ⟨b1, h⟩ := eIald (x := x) hS (a := 188) (by decide) (by decide) rfl (mi := 179) (pc := 5) (len := 1) rfl h
  replace h := eAload (mi := 179) (pc := 6) (len := 1) (i := 0) rfl rfl h
  replace h := eGetR (a := 181) (j := 1108) (g := 188) hS (by decide) (by decide) rfl rfl rfl (mi := 179) (pc := 7) (len := 3) rfl h
  replace h := eIload (mi := 179) (pc := 10) (len := 1) (i := 2) rfl rfl h
  obtain ⟨b2, h⟩ := eIald (x := y) hS (a := 188) (by decide) (by decide) rfl (mi := 179) (pc := 11) (len := 1) rfl h
  rcases eIc (mi := 179) (pc := 12) (len := 3) (t := 35) rfl rfl h with ⟨c3, h⟩ | ⟨c3, h⟩
  · replace c3 : (iv M 188 x.toInt.toNat).toInt < (iv M 188 y.toInt.toNat).toInt := mC_lt.1 c3
    replace h := eConst (mi := 179) (pc := 35) (len := 1) (v := 1) rfl h
    replace h := eGoto (mi := 179) (pc := 36) (len := 3) (t := 40) rfl rfl h
    obtain ⟨e1, e2⟩ := eRetI (mi := 179) (pc := 40) (len := 1) rfl h
    have e3 : rAhd M x y = true := by
      unfold rAhd
      simp only [decide_eq_true c3, cond_true, cond_false]
    rw [e3]
    exact ⟨e1, e2⟩
  · replace c3 : ¬ (iv M 188 x.toInt.toNat).toInt < (iv M 188 y.toInt.toNat).toInt := mC_lt.2 c3
    replace h := eAload (mi := 179) (pc := 15) (len := 1) (i := 0) rfl rfl h
    replace h := eGetR (a := 181) (j := 1108) (g := 188) hS (by decide) (by decide) rfl rfl rfl (mi := 179) (pc := 16) (len := 3) rfl h
    replace h := eIload (mi := 179) (pc := 19) (len := 1) (i := 1) rfl rfl h
    obtain ⟨b4, h⟩ := eIald (x := x) hS (a := 188) (by decide) (by decide) rfl (mi := 179) (pc := 20) (len := 1) rfl h
    replace h := eAload (mi := 179) (pc := 21) (len := 1) (i := 0) rfl rfl h
    replace h := eGetR (a := 181) (j := 1108) (g := 188) hS (by decide) (by decide) rfl rfl rfl (mi := 179) (pc := 22) (len := 3) rfl h
    replace h := eIload (mi := 179) (pc := 25) (len := 1) (i := 2) rfl rfl h
    obtain ⟨b5, h⟩ := eIald (x := y) hS (a := 188) (by decide) (by decide) rfl (mi := 179) (pc := 26) (len := 1) rfl h
    rcases eIc (mi := 179) (pc := 27) (len := 3) (t := 39) rfl rfl h with ⟨c6, h⟩ | ⟨c6, h⟩
    · replace c6 : ¬ (iv M 188 x.toInt.toNat).toInt = (iv M 188 y.toInt.toNat).toInt := mC_ne.1 c6
      replace h := eConst (mi := 179) (pc := 39) (len := 1) (v := 0) rfl h
      obtain ⟨e1, e2⟩ := eRetI (mi := 179) (pc := 40) (len := 1) rfl h
      have e3 : rAhd M x y = false := by
        unfold rAhd
        simp only [decide_eq_false c3, decide_eq_false c6, cond_true, cond_false]
      rw [e3]
      exact ⟨e1, e2⟩
    · replace c6 : (iv M 188 x.toInt.toNat).toInt = (iv M 188 y.toInt.toNat).toInt := mC_ne.2 c6
      replace h := eIload (mi := 179) (pc := 30) (len := 1) (i := 1) rfl rfl h
      replace h := eIload (mi := 179) (pc := 31) (len := 1) (i := 2) rfl rfl h
      rcases eIc (mi := 179) (pc := 32) (len := 3) (t := 39) rfl rfl h with ⟨c7, h⟩ | ⟨c7, h⟩
      · replace c7 : ¬ x.toInt < y.toInt := mC_ge.1 c7
        replace h := eConst (mi := 179) (pc := 39) (len := 1) (v := 0) rfl h
        obtain ⟨e1, e2⟩ := eRetI (mi := 179) (pc := 40) (len := 1) rfl h
        have e3 : rAhd M x y = false := by
          unfold rAhd
          simp only [decide_eq_false c3, decide_eq_true c6, decide_eq_false c7, cond_true, cond_false]
        rw [e3]
        exact ⟨e1, e2⟩
      · replace c7 : x.toInt < y.toInt := mC_ge.2 c7
        replace h := eConst (mi := 179) (pc := 35) (len := 1) (v := 1) rfl h
        replace h := eGoto (mi := 179) (pc := 36) (len := 3) (t := 40) rfl rfl h
        obtain ⟨e1, e2⟩ := eRetI (mi := 179) (pc := 40) (len := 1) rfl h
        have e3 : rAhd M x y = true := by
          unfold rAhd
          simp only [decide_eq_false c3, decide_eq_true c6, decide_eq_true c7, cond_true, cond_false]
        rw [e3]
        exact ⟨e1, e2⟩
/-- asking changes what stands on the stack, and the facts -/
def FzD (M N : Mem) : Prop := ∀ c i, c ≠ 215 → c ≠ 216 → mSlot N c i = mSlot M c i
theorem FzD.rf {M : Mem} : FzD M M := fun _ _ _ _ => rfl
theorem FzD.tr {A B C : Mem} (h : FzD A B) (h' : FzD B C) : FzD A C := fun c i p q => (h' c i p q).trans (h c i p q)
theorem FzD.si {M N : Mem} (h : FzD M N) {c i : Nat} (p : c ≠ 215) (q : c ≠ 216) : iv N c i = iv M c i := by unfold iv; rw [h c i p q]
theorem FzD.fx {A B : Mem} (h : Fx 216 216 A B) : FzD A B := fun c i p q => h c i (by omega)
theorem FzD.fr {A B : Mem} (h : FrR A B) : FzD A B := fun c i p q => h c i p
/-- what class and reference hold alike, deaths and laws too -/
def AR (M N : Mem) (n : Nat) : Prop := AL M N n ∧ (∀ p, p < 10 → iv N 182 p = iv M 4 p) ∧ (∀ s, s < 8 → iv N 184 s = iv M 6 s) ∧ pvC M ∧ ∀ e, e < 40 → (iv M (10 + e) 1).toInt ≤ 9
theorem AL_r {M N N' : Mem} {n : Nat} (h : AL M N n) (e : ∀ c i, (c = 181 ∧ i = 0) ∨ c = 183 ∨ (185 ≤ c ∧ c ≤ 194) → iv N' c i = iv N c i) : AL M N' n := by
  obtain ⟨h1, h2, h3, h4, h5⟩ := h
  refine ⟨h1, h2, by rw [e 181 0 (by omega)]; exact h3, fun d hd => ?_, fun s hs => by rw [e 183 s (by omega)]; exact h5 s hs⟩
  obtain ⟨a, b, c⟩ := h4 d hd
  refine ⟨fun f hf hf7 => ?_, ?_, c⟩
  · rw [e (rA f) d (Or.inr (Or.inr (rA_rng f hf)))]
    exact a f hf hf7
  · rw [e 191 d (by omega)]
    exact b
theorem AR_r {M N N' : Mem} {n : Nat} (h : AR M N n) (e : ∀ c i, (c = 181 ∧ i = 0) ∨ (182 ≤ c ∧ c ≤ 194) → iv N' c i = iv N c i) : AR M N' n :=
  ⟨AL_r h.1 (fun c i q => e c i (by omega)), fun p hp => (e 182 p (by omega)).trans (h.2.1 p hp), fun s hs => (e 184 s (by omega)).trans (h.2.2.1 s hs), h.2.2.2⟩
theorem AR_d {M N N' : Mem} {n : Nat} (h : AR M N n) (f : FzD N N') : AR M N' n := AR_r h (fun c i q => f.si (by omega) (by omega))
section
variable {M N : Mem} {n : Nat}
theorem AL_f (h : AL M N n) {e f : Nat} (he : e < n) (hf : f < 10) (h7 : f ≠ 7) : iv N (rA f) e = iv M (10 + e) f := Int32.toInt_inj.mp ((h.2.2.2.1 e he).1 f hf h7).symm
theorem AL_3 (h : AL M N n) {e : Nat} (he : e < n) : iv N 188 e = iv M (10 + e) 3 := AL_f (f := 3) h he (by decide) (by decide)
theorem AL_1 (h : AL M N n) {e : Nat} (he : e < n) : iv N 186 e = iv M (10 + e) 1 := AL_f (f := 1) h he (by decide) (by decide)
theorem AL_0 (h : AL M N n) {e : Nat} (he : e < n) : iv N 185 e = iv M (10 + e) 0 := AL_f (f := 0) h he (by decide) (by decide)
theorem AL_4 (h : AL M N n) {e : Nat} (he : e < n) : iv N 189 e = iv M (10 + e) 4 := AL_f (f := 4) h he (by decide) (by decide)
theorem AL_5 (h : AL M N n) {e : Nat} (he : e < n) : iv N 190 e = iv M (10 + e) 5 := AL_f (f := 5) h he (by decide) (by decide)
theorem AL_6 (h : AL M N n) {e : Nat} (he : e < n) : iv N 194 e = iv M (10 + e) 6 := AL_f (f := 6) h he (by decide) (by decide)
theorem rDead_eq (h : AR M N n) {p : Int32} (hp : p.toInt.toNat < 10) (t : Int32) : rDead N p t = bDead M p t := by
  unfold rDead bDead
  rw [h.2.1 _ hp]
theorem rAhd_eq (h : AL M N n) {x y : Int32} (hx : x.toInt.toNat < n) (hy : y.toInt.toNat < n) : rAhd N x y = bAhd M x y := by
  unfold rAhd bAhd
  rw [AL_3 h hx, AL_3 h hy]
/-- entered ahead of another one -/
theorem ent_c (h : AL M N n) {x y t : Int32} (hx : x.toInt.toNat < n) (hy : y.toInt.toNat < n) (ht : t.toInt < 1000000) : (bif rEnt N y t then (bif rEnt N x t then (bif decide ((iv N 191 y.toInt.toNat).toInt < (iv N 191 x.toInt.toNat).toInt) then true else false) else true) else false) = (!decide (t.toInt < (iv M (10 + y.toInt.toNat) 7).toInt) && decide ((iv M (10 + y.toInt.toNat) 7).toInt < (iv M (10 + x.toInt.toNat) 7).toInt)) := by
  rw [rEnt_eq h hx ht, rEnt_eq h hy ht]
  have a := yRel_7 (h.2.2.2.1 _ hx).2.1
  have b := yRel_7 (h.2.2.2.1 _ hy).2.1
  by_cases c1 : t.toInt < (iv M (10 + y.toInt.toNat) 7).toInt
  · rw [decide_eq_true c1]
    rfl
  · rw [decide_eq_false c1]
    by_cases c2 : t.toInt < (iv M (10 + x.toInt.toNat) 7).toInt
    · rw [decide_eq_true c2, decide_eq_true (show (iv M (10 + y.toInt.toNat) 7).toInt < (iv M (10 + x.toInt.toNat) 7).toInt by omega)]
      rfl
    · rw [decide_eq_false c2]
      by_cases c3 : (iv M (10 + y.toInt.toNat) 7).toInt < (iv M (10 + x.toInt.toNat) 7).toInt
      · rw [decide_eq_true c3, decide_eq_true (show (iv N 191 y.toInt.toNat).toInt < (iv N 191 x.toInt.toNat).toInt by omega)]
        rfl
      · rw [decide_eq_false c3, decide_eq_false (show ¬ (iv N 191 y.toInt.toNat).toInt < (iv N 191 x.toInt.toNat).toInt by omega)]
        rfl
end
theorem fe_lp {N0 : Mem} {s x t : Int32} : ∀ (n : Nat) {d : Nat} {L : MLoc} {N : Mem} {r : Option Value} {M1 : Mem} {k : Int32}, Sh N → Fx 216 216 N0 N → mLd L 0 = some (.ref 181) → mLd L 1 = some (.int s) → mLd L 2 = some (.int x) → mLd L 3 = some (.int t) → mLd L 4 = some (.int k) → 0 ≤ k.toInt → k.toInt ≤ 14 → (∀ i, i < k.toInt.toNat → iv N 216 i = 0) → En n d 219 3 L [] N r M1 → ∃ m L' N', Sh N' ∧ Fx 216 216 N0 N' ∧ (mLd L' 0 = some (.ref 181) ∧ mLd L' 1 = some (.int s) ∧ mLd L' 2 = some (.int x) ∧ mLd L' 3 = some (.int t)) ∧ TK 216 14 N' (fun _ => 0) ∧ En m d 219 24 L' [] N' r M1 := by
  intro n
  induction n with
  | zero => intro d L N r M1 k _ _ _ _ _ _ _ _ _ _ h; exact (En.zero (mi := 219) (pc := 3) (len := 2) rfl h).elim
  | succ n ih =>
    intro d L N r M1 k hS f l0 l1 l2 l3 l4 k0 k9 hz h
    replace h := eIloadS (mi := 219) (pc := 3) (len := 2) (i := 4) rfl l4 h
    replace h := eConst (mi := 219) (pc := 5) (len := 2) (v := 14) rfl h
    rcases eIc (mi := 219) (pc := 7) (len := 3) (t := 24) rfl rfl h with ⟨c1, h⟩ | ⟨c1, h⟩
    · replace c1 : ¬ k.toInt < 14 := mC_ge.1 c1
      have q14 : ¬ k.toInt < 14 := c1
      exact ⟨_, _, N, hS, f, ⟨l0, l1, l2, l3⟩, fun i hi => hz i (by omega), h⟩
    · replace c1 : k.toInt < 14 := mC_ge.2 c1
      replace h := eAload (mi := 219) (pc := 10) (len := 1) (i := 0) rfl l0 h
      replace h := eGetR (a := 181) (j := 1147) (g := 216) hS (by decide) (by decide) rfl rfl rfl (mi := 219) (pc := 11) (len := 3) rfl h
      replace h := eIload (mi := 219) (pc := 14) (len := 2) (i := 4) rfl l4 h
      replace h := eConst (mi := 219) (pc := 16) (len := 1) (v := 0) rfl h
      obtain ⟨N3, eN3⟩ : ∃ X_, X_ = mPut N 216 k.toInt.toNat (.int (0 : Int32)) := ⟨_, rfl⟩
      obtain ⟨bd2, h⟩ := eIast (x := k) (N := N3) hS (a := 216) (by decide) (by decide) eN3 (mi := 219) (pc := 17) (len := 1) rfl h
      have hS4 : Sh N3 := by rw [eN3]; exact hS.put (by decide) (by decide) rfl
      replace h := eIinc (mi := 219) (pc := 18) (len := 3) (i := 4) (k := 1) rfl l4 (by decide) h
      replace h := eGoto (mi := 219) (pc := 21) (len := 3) (t := 3) rfl rfl h
      have ek : (k + 1).toInt = k.toInt + 1 := i32_inc k0 (by omega)
      have q14 : k.toInt < 14 := c1
      have en : (k + 1).toInt.toNat = k.toInt.toNat + 1 := by omega
      refine ih (k := k + 1) hS4 (f.tr (by rw [eN3]; exact Fx.put (by decide) (by decide))) (mLd_st1_ref (by decide) l0) (mLd_st1_int (by decide) l1) (mLd_st1_int (by decide) l2) (mLd_st1_int (by decide) l3) mLd_st1_i (by omega) (by omega) (fun i hi => ?_) h
      rw [en] at hi
      rw [eN3]
      by_cases c : i = k.toInt.toNat
      · rw [c]; exact iv_put_eq hS (by decide) (by decide) (by show k.toInt.toNat < 14; omega)
      · rw [iv_put_ne (Or.inr c)]; exact hz i (by omega)
theorem fE_en {M N : Mem} {n0 : Nat} {s x t : Int32} (hA0 : Sh N) (hA : AR M N n0) (hx : x.toInt.toNat < n0) (ht : t.toInt < 1000) {n d : Nat} {r : Option Value} {M1 : Mem} (h : En n d 219 0 (lv_args 0 [.ref 181, .int s, .int x, .int t]) [] N r M1) : r = none ∧ Sh M1 ∧ Fx 216 216 N M1 ∧ TK 216 14 M1 (fcU (fcU (fcU (fcU (fcU (fcU (fcU (fun _ => 0) 3 (b2 (!decide (t.toInt < (iv M (10 + x.toInt.toNat) 7).toInt)))) 6 (iv M (10 + x.toInt.toNat) 5)) 8 (iv M (10 + x.toInt.toNat) 4)) 10 (b2 (bMis M x.toInt.toNat))) 11 (b2 (bDead M (iv M (10 + x.toInt.toNat) 1) t))) 12 (s)) 13 (t)) := by
  have hn40 := hA.1.1
  replace h := eConst (mi := 219) (pc := 0) (len := 1) (v := 0) rfl h
  replace h := eIstore (mi := 219) (pc := 1) (len := 2) (i := 4) rfl (by decide) h
  obtain ⟨n, L2, N2, hS2, fx2, ⟨l0, l1, l2, l3⟩, hK2, h⟩ := fe_lp (N0 := N) n (k := 0) hA0 Fx.rf rfl rfl rfl rfl rfl (by decide) (by decide) (fun i hi => absurd hi (Nat.not_lt_zero i)) h
  have hA2 := AR_d hA (FzD.fx fx2)
  replace h := eAload (mi := 219) (pc := 24) (len := 1) (i := 0) rfl l0 h
  replace h := eGetR (a := 181) (j := 1147) (g := 216) hS2 (by decide) (by decide) rfl rfl rfl (mi := 219) (pc := 25) (len := 3) rfl h
  replace h := eConst (mi := 219) (pc := 28) (len := 1) (v := 3) rfl h
  replace h := eAload (mi := 219) (pc := 29) (len := 1) (i := 0) rfl l0 h
  replace h := eIload (mi := 219) (pc := 30) (len := 1) (i := 2) rfl l2 h
  replace h := eIload (mi := 219) (pc := 31) (len := 1) (i := 3) rfl l3 h
  replace h := eCallP (mi := 219) (pc := 32) (len := 3) (j := 180) (as := [.ref 181, .int x, .int t]) (rest := [.int (3 : Int32), .ref 216]) rfl (Or.inr (Or.inl rfl)) (by decide) rfl rfl (fun _ _ _ _ g => rEnt_en hS2 g) h
  replace h : En n d 219 43 L2 [.int (b2 (bif rEnt N2 x t then true else false)), .int (3 : Int32), .ref 216] N2 r M1 := by
    rcases eIf (mi := 219) (pc := 35) (len := 3) (t := 42) rfl rfl h with ⟨c1, h⟩ | ⟨c1, h⟩
    · replace c1 : rEnt N2 x t = false := mB_eq.1 c1
      replace h := eConst (mi := 219) (pc := 42) (len := 1) (v := 0) rfl h
      have e3 : (bif rEnt N2 x t then true else false) = false := by
        simp only [c1, cond_true, cond_false]
      rw [e3]
      exact h
    · replace c1 : rEnt N2 x t = true := mB_eq.2 c1
      replace h := eConst (mi := 219) (pc := 38) (len := 1) (v := 1) rfl h
      replace h := eGoto (mi := 219) (pc := 39) (len := 3) (t := 43) rfl rfl h
      have e3 : (bif rEnt N2 x t then true else false) = true := by
        simp only [c1, cond_true, cond_false]
      rw [e3]
      exact h
  obtain ⟨N3, eN3⟩ : ∃ X_, X_ = mPut N2 216 ((3 : Int32).toInt.toNat) (.int (b2 (bif rEnt N2 x t then true else false))) := ⟨_, rfl⟩
  obtain ⟨bd2, h⟩ := eIast (x := (3 : Int32)) (N := N3) hS2 (a := 216) (by decide) (by decide) eN3 (mi := 219) (pc := 43) (len := 1) rfl h
  replace eN3 : N3 = mPut N2 216 3 (.int (b2 (bif rEnt N2 x t then true else false))) := eN3
  have evN3 : (b2 (bif rEnt N2 x t then true else false)) = b2 (!decide (t.toInt < (iv M (10 + x.toInt.toNat) 7).toInt)) := by rw [bif_b, rEnt_eq (u := t) hA2.1 hx (by omega)]
  rw [evN3] at eN3
  have hS4 : Sh N3 := by rw [eN3]; exact hS2.put (by decide) (by decide) rfl
  have hKN3 := TK.put hK2 hS2 (by decide) (by decide) rfl (by decide) eN3
  have fxN3 : Fx 216 216 N N3 := fx2.tr (by rw [eN3]; exact Fx.put (by decide) (by decide))
  have hAN3 := AR_d hA (FzD.fx fxN3)
  replace h := eAload (mi := 219) (pc := 44) (len := 1) (i := 0) rfl l0 h
  replace h := eGetR (a := 181) (j := 1147) (g := 216) hS4 (by decide) (by decide) rfl rfl rfl (mi := 219) (pc := 45) (len := 3) rfl h
  replace h := eConst (mi := 219) (pc := 48) (len := 2) (v := 6) rfl h
  replace h := eAload (mi := 219) (pc := 50) (len := 1) (i := 0) rfl l0 h
  replace h := eGetR (a := 181) (j := 1110) (g := 190) hS4 (by decide) (by decide) rfl rfl rfl (mi := 219) (pc := 51) (len := 3) rfl h
  replace h := eIload (mi := 219) (pc := 54) (len := 1) (i := 2) rfl l2 h
  obtain ⟨bd5, h⟩ := eIald (x := x) hS4 (a := 190) (by decide) (by decide) rfl (mi := 219) (pc := 55) (len := 1) rfl h
  obtain ⟨N7, eN7⟩ : ∃ X_, X_ = mPut N3 216 ((6 : Int32).toInt.toNat) (.int (iv N3 190 x.toInt.toNat)) := ⟨_, rfl⟩
  obtain ⟨bd6, h⟩ := eIast (x := (6 : Int32)) (N := N7) hS4 (a := 216) (by decide) (by decide) eN7 (mi := 219) (pc := 56) (len := 1) rfl h
  replace eN7 : N7 = mPut N3 216 6 (.int (iv N3 190 x.toInt.toNat)) := eN7
  have evN7 : (iv N3 190 x.toInt.toNat) = iv M (10 + x.toInt.toNat) 5 := by exact AL_5 hAN3.1 hx
  rw [evN7] at eN7
  have hS8 : Sh N7 := by rw [eN7]; exact hS4.put (by decide) (by decide) rfl
  have hKN7 := TK.put hKN3 hS4 (by decide) (by decide) rfl (by decide) eN7
  have fxN7 : Fx 216 216 N N7 := fxN3.tr (by rw [eN7]; exact Fx.put (by decide) (by decide))
  have hAN7 := AR_d hA (FzD.fx fxN7)
  replace h := eAload (mi := 219) (pc := 57) (len := 1) (i := 0) rfl l0 h
  replace h := eGetR (a := 181) (j := 1147) (g := 216) hS8 (by decide) (by decide) rfl rfl rfl (mi := 219) (pc := 58) (len := 3) rfl h
  replace h := eConst (mi := 219) (pc := 61) (len := 2) (v := 8) rfl h
  replace h := eAload (mi := 219) (pc := 63) (len := 1) (i := 0) rfl l0 h
  replace h := eGetR (a := 181) (j := 1109) (g := 189) hS8 (by decide) (by decide) rfl rfl rfl (mi := 219) (pc := 64) (len := 3) rfl h
  replace h := eIload (mi := 219) (pc := 67) (len := 1) (i := 2) rfl l2 h
  obtain ⟨bd9, h⟩ := eIald (x := x) hS8 (a := 189) (by decide) (by decide) rfl (mi := 219) (pc := 68) (len := 1) rfl h
  obtain ⟨N11, eN11⟩ : ∃ X_, X_ = mPut N7 216 ((8 : Int32).toInt.toNat) (.int (iv N7 189 x.toInt.toNat)) := ⟨_, rfl⟩
  obtain ⟨bd10, h⟩ := eIast (x := (8 : Int32)) (N := N11) hS8 (a := 216) (by decide) (by decide) eN11 (mi := 219) (pc := 69) (len := 1) rfl h
  replace eN11 : N11 = mPut N7 216 8 (.int (iv N7 189 x.toInt.toNat)) := eN11
  have evN11 : (iv N7 189 x.toInt.toNat) = iv M (10 + x.toInt.toNat) 4 := by exact AL_4 hAN7.1 hx
  rw [evN11] at eN11
  have hS12 : Sh N11 := by rw [eN11]; exact hS8.put (by decide) (by decide) rfl
  have hKN11 := TK.put hKN7 hS8 (by decide) (by decide) rfl (by decide) eN11
  have fxN11 : Fx 216 216 N N11 := fxN7.tr (by rw [eN11]; exact Fx.put (by decide) (by decide))
  have hAN11 := AR_d hA (FzD.fx fxN11)
  replace h := eAload (mi := 219) (pc := 70) (len := 1) (i := 0) rfl l0 h
  replace h := eGetR (a := 181) (j := 1147) (g := 216) hS12 (by decide) (by decide) rfl rfl rfl (mi := 219) (pc := 71) (len := 3) rfl h
  replace h := eConst (mi := 219) (pc := 74) (len := 2) (v := 10) rfl h
  replace h := eAload (mi := 219) (pc := 76) (len := 1) (i := 0) rfl l0 h
  replace h := eIload (mi := 219) (pc := 77) (len := 1) (i := 2) rfl l2 h
  replace h := eCallP (mi := 219) (pc := 78) (len := 3) (j := 181) (as := [.ref 181, .int x]) (rest := [.int (10 : Int32), .ref 216]) rfl (Or.inr (Or.inl rfl)) (by decide) rfl rfl (fun _ _ _ _ g => rMis_en hS12 g) h
  replace h : En n d 219 89 L2 [.int (b2 (bif rMis N11 x then true else false)), .int (10 : Int32), .ref 216] N11 r M1 := by
    rcases eIf (mi := 219) (pc := 81) (len := 3) (t := 88) rfl rfl h with ⟨c13, h⟩ | ⟨c13, h⟩
    · replace c13 : rMis N11 x = false := mB_eq.1 c13
      replace h := eConst (mi := 219) (pc := 88) (len := 1) (v := 0) rfl h
      have e3 : (bif rMis N11 x then true else false) = false := by
        simp only [c13, cond_true, cond_false]
      rw [e3]
      exact h
    · replace c13 : rMis N11 x = true := mB_eq.2 c13
      replace h := eConst (mi := 219) (pc := 84) (len := 1) (v := 1) rfl h
      replace h := eGoto (mi := 219) (pc := 85) (len := 3) (t := 89) rfl rfl h
      have e3 : (bif rMis N11 x then true else false) = true := by
        simp only [c13, cond_true, cond_false]
      rw [e3]
      exact h
  obtain ⟨N15, eN15⟩ : ∃ X_, X_ = mPut N11 216 ((10 : Int32).toInt.toNat) (.int (b2 (bif rMis N11 x then true else false))) := ⟨_, rfl⟩
  obtain ⟨bd14, h⟩ := eIast (x := (10 : Int32)) (N := N15) hS12 (a := 216) (by decide) (by decide) eN15 (mi := 219) (pc := 89) (len := 1) rfl h
  replace eN15 : N15 = mPut N11 216 10 (.int (b2 (bif rMis N11 x then true else false))) := eN15
  have evN15 : (b2 (bif rMis N11 x then true else false)) = b2 (bMis M x.toInt.toNat) := by rw [bif_b, rMis_eq hAN11.1 hx]
  rw [evN15] at eN15
  have hS16 : Sh N15 := by rw [eN15]; exact hS12.put (by decide) (by decide) rfl
  have hKN15 := TK.put hKN11 hS12 (by decide) (by decide) rfl (by decide) eN15
  have fxN15 : Fx 216 216 N N15 := fxN11.tr (by rw [eN15]; exact Fx.put (by decide) (by decide))
  have hAN15 := AR_d hA (FzD.fx fxN15)
  replace h := eAload (mi := 219) (pc := 90) (len := 1) (i := 0) rfl l0 h
  replace h := eGetR (a := 181) (j := 1147) (g := 216) hS16 (by decide) (by decide) rfl rfl rfl (mi := 219) (pc := 91) (len := 3) rfl h
  replace h := eConst (mi := 219) (pc := 94) (len := 2) (v := 11) rfl h
  replace h := eAload (mi := 219) (pc := 96) (len := 1) (i := 0) rfl l0 h
  replace h := eAload (mi := 219) (pc := 97) (len := 1) (i := 0) rfl l0 h
  replace h := eGetR (a := 181) (j := 1106) (g := 186) hS16 (by decide) (by decide) rfl rfl rfl (mi := 219) (pc := 98) (len := 3) rfl h
  replace h := eIload (mi := 219) (pc := 101) (len := 1) (i := 2) rfl l2 h
  obtain ⟨bd17, h⟩ := eIald (x := x) hS16 (a := 186) (by decide) (by decide) rfl (mi := 219) (pc := 102) (len := 1) rfl h
  replace h := eIload (mi := 219) (pc := 103) (len := 1) (i := 3) rfl l3 h
  replace h := eCallP (mi := 219) (pc := 104) (len := 3) (j := 176) (as := [.ref 181, .int (iv N15 186 x.toInt.toNat), .int t]) (rest := [.int (11 : Int32), .ref 216]) rfl (Or.inr (Or.inl rfl)) (by decide) rfl rfl (fun _ _ _ _ g => rDead_en hS16 g) h
  replace h : En n d 219 115 L2 [.int (b2 (bif rDead N15 (iv N15 186 x.toInt.toNat) t then true else false)), .int (11 : Int32), .ref 216] N15 r M1 := by
    rcases eIf (mi := 219) (pc := 107) (len := 3) (t := 114) rfl rfl h with ⟨c18, h⟩ | ⟨c18, h⟩
    · replace c18 : rDead N15 (iv N15 186 x.toInt.toNat) t = false := mB_eq.1 c18
      replace h := eConst (mi := 219) (pc := 114) (len := 1) (v := 0) rfl h
      have e3 : (bif rDead N15 (iv N15 186 x.toInt.toNat) t then true else false) = false := by
        simp only [c18, cond_true, cond_false]
      rw [e3]
      exact h
    · replace c18 : rDead N15 (iv N15 186 x.toInt.toNat) t = true := mB_eq.2 c18
      replace h := eConst (mi := 219) (pc := 110) (len := 1) (v := 1) rfl h
      replace h := eGoto (mi := 219) (pc := 111) (len := 3) (t := 115) rfl rfl h
      have e3 : (bif rDead N15 (iv N15 186 x.toInt.toNat) t then true else false) = true := by
        simp only [c18, cond_true, cond_false]
      rw [e3]
      exact h
  obtain ⟨N20, eN20⟩ : ∃ X_, X_ = mPut N15 216 ((11 : Int32).toInt.toNat) (.int (b2 (bif rDead N15 (iv N15 186 x.toInt.toNat) t then true else false))) := ⟨_, rfl⟩
  obtain ⟨bd19, h⟩ := eIast (x := (11 : Int32)) (N := N20) hS16 (a := 216) (by decide) (by decide) eN20 (mi := 219) (pc := 115) (len := 1) rfl h
  replace eN20 : N20 = mPut N15 216 11 (.int (b2 (bif rDead N15 (iv N15 186 x.toInt.toNat) t then true else false))) := eN20
  have evN20 : (b2 (bif rDead N15 (iv N15 186 x.toInt.toNat) t then true else false)) = b2 (bDead M (iv M (10 + x.toInt.toNat) 1) t) := by rw [bif_b, AL_1 hAN15.1 hx, rDead_eq (p := iv M (10 + x.toInt.toNat) 1) hAN15 (by have := hA.2.2.2.2 x.toInt.toNat (by omega); omega)]
  rw [evN20] at eN20
  have hS21 : Sh N20 := by rw [eN20]; exact hS16.put (by decide) (by decide) rfl
  have hKN20 := TK.put hKN15 hS16 (by decide) (by decide) rfl (by decide) eN20
  have fxN20 : Fx 216 216 N N20 := fxN15.tr (by rw [eN20]; exact Fx.put (by decide) (by decide))
  have hAN20 := AR_d hA (FzD.fx fxN20)
  replace h := eAload (mi := 219) (pc := 116) (len := 1) (i := 0) rfl l0 h
  replace h := eGetR (a := 181) (j := 1147) (g := 216) hS21 (by decide) (by decide) rfl rfl rfl (mi := 219) (pc := 117) (len := 3) rfl h
  replace h := eConst (mi := 219) (pc := 120) (len := 2) (v := 12) rfl h
  replace h := eIload (mi := 219) (pc := 122) (len := 1) (i := 1) rfl l1 h
  obtain ⟨N23, eN23⟩ : ∃ X_, X_ = mPut N20 216 ((12 : Int32).toInt.toNat) (.int s) := ⟨_, rfl⟩
  obtain ⟨bd22, h⟩ := eIast (x := (12 : Int32)) (N := N23) hS21 (a := 216) (by decide) (by decide) eN23 (mi := 219) (pc := 123) (len := 1) rfl h
  replace eN23 : N23 = mPut N20 216 12 (.int s) := eN23
  have evN23 : s = s := by rfl
  rw [evN23] at eN23
  have hS24 : Sh N23 := by rw [eN23]; exact hS21.put (by decide) (by decide) rfl
  have hKN23 := TK.put hKN20 hS21 (by decide) (by decide) rfl (by decide) eN23
  have fxN23 : Fx 216 216 N N23 := fxN20.tr (by rw [eN23]; exact Fx.put (by decide) (by decide))
  have hAN23 := AR_d hA (FzD.fx fxN23)
  replace h := eAload (mi := 219) (pc := 124) (len := 1) (i := 0) rfl l0 h
  replace h := eGetR (a := 181) (j := 1147) (g := 216) hS24 (by decide) (by decide) rfl rfl rfl (mi := 219) (pc := 125) (len := 3) rfl h
  replace h := eConst (mi := 219) (pc := 128) (len := 2) (v := 13) rfl h
  replace h := eIload (mi := 219) (pc := 130) (len := 1) (i := 3) rfl l3 h
  obtain ⟨N26, eN26⟩ : ∃ X_, X_ = mPut N23 216 ((13 : Int32).toInt.toNat) (.int t) := ⟨_, rfl⟩
  obtain ⟨bd25, h⟩ := eIast (x := (13 : Int32)) (N := N26) hS24 (a := 216) (by decide) (by decide) eN26 (mi := 219) (pc := 131) (len := 1) rfl h
  replace eN26 : N26 = mPut N23 216 13 (.int t) := eN26
  have evN26 : t = t := by rfl
  rw [evN26] at eN26
  have hS27 : Sh N26 := by rw [eN26]; exact hS24.put (by decide) (by decide) rfl
  have hKN26 := TK.put hKN23 hS24 (by decide) (by decide) rfl (by decide) eN26
  have fxN26 : Fx 216 216 N N26 := fxN23.tr (by rw [eN26]; exact Fx.put (by decide) (by decide))
  have hAN26 := AR_d hA (FzD.fx fxN26)
  obtain ⟨e1, e2⟩ := eRetV (mi := 219) (pc := 132) (len := 1) rfl h
  rw [e2]
  exact ⟨e1, hS27, fxN26, hKN26⟩
/-- since when deeds are known, as the reference has laid it -/
def knR (M N : Mem) (n : Nat) : Prop := ∀ p, p < 10 → ∀ d, d < n → iv N 200 (40 * p + d) = iv M (100 + p) d
theorem knR_d {M N N' : Mem} {n : Nat} (h : knR M N n) (f : FzD N N') : knR M N' n := fun p hp d hd => (f.si (by decide) (by decide)).trans (h p hp d hd)
theorem kn_ix {M : Mem} {y x : Int32} (hp : pvC M) (h9 : (iv M (10 + y.toInt.toNat) 1).toInt ≤ 9) (hy : y.toInt.toNat < 40) (x0 : 0 ≤ x.toInt) (x9 : x.toInt.toNat < 40) : (((40 : Int32) * iv M (10 + y.toInt.toNat) 1) + x).toInt.toNat = 40 * (iv M (10 + y.toInt.toNat) 1).toInt.toNat + x.toInt.toNat := by
  have a := (hp _ hy).2
  have e40 : (40 : Int32).toInt = 40 := rfl
  have m : ((40 : Int32) * iv M (10 + y.toInt.toNat) 1).toInt = 40 * (iv M (10 + y.toInt.toNat) 1).toInt := by rw [i32_mul (by rw [e40]; omega) (by rw [e40]; omega), e40]
  rw [i32_add (by omega) (by omega), m]
  omega
theorem does_en {M N : Mem} {W : Nat → WL} {n0 : Nat} {s x y t c : Int32} {lt : Int} (hA0 : Sh N) (hA : AR M N n0) (hK : knR M N n0) (hW : lwOk M W) (hP : ∀ c i, 209 ≤ c → c ≤ 214 → iv N c i = iv M c i) (hs : s.toInt.toNat < 8) (hk0 : 0 ≤ (iv M 6 s.toInt.toNat).toInt) (hk3 : lwK M s < 3) (x0 : 0 ≤ x.toInt) (hx : x.toInt.toNat < n0) (hy : y.toInt.toNat < n0) (hd9 : ∀ e, e < n0 → (iv M (10 + e) 3).toInt ≤ 999) (ht : t.toInt < 1000) (hc : c.toInt = lt) {n d : Nat} {r : Option Value} {M1 : Mem} (h : En n d 220 0 (lv_args 0 [.ref 181, .int s, .int x, .int y, .int t, .int c]) [] N r M1) : r = some (.int (b2 (btF M W s t lt x.toInt.toNat y.toInt.toNat))) ∧ Sh M1 ∧ FzD N M1 := by
  have hn40 := hA.1.1
  have hd := hd9 _ hy
  replace h := eAload (mi := 220) (pc := 0) (len := 1) (i := 0) rfl rfl h
  replace h := eIload (mi := 220) (pc := 1) (len := 1) (i := 1) rfl rfl h
  replace h := eIload (mi := 220) (pc := 2) (len := 1) (i := 2) rfl rfl h
  replace h := eIload (mi := 220) (pc := 3) (len := 2) (i := 4) rfl rfl h
  obtain ⟨r1, N2, g3, h⟩ := eCall (mi := 220) (pc := 5) (len := 3) (j := 219) (as := [.ref 181, .int s, .int x, .int t]) (rest := []) rfl (Or.inr (Or.inl rfl)) (by decide) rfl rfl h
  obtain ⟨erN2, hSN2, fxN2, hKN2⟩ := fE_en hA0 hA hx ht g3
  rw [erN2] at h
  have hAN2 := AR_d hA (FzD.fx fxN2)
  replace h := eAload (mi := 220) (pc := 8) (len := 1) (i := 0) rfl rfl h
  replace h := eGetR (a := 181) (j := 1147) (g := 216) hSN2 (by decide) (by decide) rfl rfl rfl (mi := 220) (pc := 9) (len := 3) rfl h
  replace h := eConst (mi := 220) (pc := 12) (len := 1) (v := 0) rfl h
  replace h := eAload (mi := 220) (pc := 13) (len := 1) (i := 0) rfl rfl h
  replace h := eGetR (a := 181) (j := 1122) (g := 200) hSN2 (by decide) (by decide) rfl rfl rfl (mi := 220) (pc := 14) (len := 3) rfl h
  replace h := eConst (mi := 220) (pc := 17) (len := 2) (v := 40) rfl h
  replace h := eAload (mi := 220) (pc := 19) (len := 1) (i := 0) rfl rfl h
  replace h := eGetR (a := 181) (j := 1106) (g := 186) hSN2 (by decide) (by decide) rfl rfl rfl (mi := 220) (pc := 20) (len := 3) rfl h
  replace h := eIload (mi := 220) (pc := 23) (len := 1) (i := 3) rfl rfl h
  obtain ⟨bd4, h⟩ := eIald (x := y) hSN2 (a := 186) (by decide) (by decide) rfl (mi := 220) (pc := 24) (len := 1) rfl h
  replace h := eMul (mi := 220) (pc := 25) (len := 1) rfl h
  replace h := eIload (mi := 220) (pc := 26) (len := 1) (i := 2) rfl rfl h
  replace h := eAdd (mi := 220) (pc := 27) (len := 1) rfl h
  obtain ⟨bd5, h⟩ := eIald (x := (((40 : Int32) * (iv N2 186 y.toInt.toNat)) + x)) hSN2 (a := 200) (by decide) (by decide) rfl (mi := 220) (pc := 28) (len := 1) rfl h
  replace h := eAload (mi := 220) (pc := 29) (len := 1) (i := 0) rfl rfl h
  replace h := eGetR (a := 181) (j := 1108) (g := 188) hSN2 (by decide) (by decide) rfl rfl rfl (mi := 220) (pc := 30) (len := 3) rfl h
  replace h := eIload (mi := 220) (pc := 33) (len := 1) (i := 3) rfl rfl h
  obtain ⟨bd6, h⟩ := eIald (x := y) hSN2 (a := 188) (by decide) (by decide) rfl (mi := 220) (pc := 34) (len := 1) rfl h
  replace h : En n d 220 43 (lv_args 0 [.ref 181, .int s, .int x, .int y, .int t, .int c]) [.int (b2 (bif decide ((iv N2 188 y.toInt.toNat).toInt < (iv N2 200 (((40 : Int32) * (iv N2 186 y.toInt.toNat)) + x).toInt.toNat).toInt) then false else true)), .int (0 : Int32), .ref 216] N2 r M1 := by
    rcases eIc (mi := 220) (pc := 35) (len := 3) (t := 42) rfl rfl h with ⟨c7, h⟩ | ⟨c7, h⟩
    · replace c7 : (iv N2 188 y.toInt.toNat).toInt < (iv N2 200 (((40 : Int32) * (iv N2 186 y.toInt.toNat)) + x).toInt.toNat).toInt := mC_gt.1 c7
      replace h := eConst (mi := 220) (pc := 42) (len := 1) (v := 0) rfl h
      have e3 : (bif decide ((iv N2 188 y.toInt.toNat).toInt < (iv N2 200 (((40 : Int32) * (iv N2 186 y.toInt.toNat)) + x).toInt.toNat).toInt) then false else true) = false := by
        simp only [decide_eq_true c7, cond_true, cond_false]
      rw [e3]
      exact h
    · replace c7 : ¬ (iv N2 188 y.toInt.toNat).toInt < (iv N2 200 (((40 : Int32) * (iv N2 186 y.toInt.toNat)) + x).toInt.toNat).toInt := mC_gt.2 c7
      replace h := eConst (mi := 220) (pc := 38) (len := 1) (v := 1) rfl h
      replace h := eGoto (mi := 220) (pc := 39) (len := 3) (t := 43) rfl rfl h
      have e3 : (bif decide ((iv N2 188 y.toInt.toNat).toInt < (iv N2 200 (((40 : Int32) * (iv N2 186 y.toInt.toNat)) + x).toInt.toNat).toInt) then false else true) = true := by
        simp only [decide_eq_false c7, cond_true, cond_false]
      rw [e3]
      exact h
  obtain ⟨N9, eN9⟩ : ∃ X_, X_ = mPut N2 216 ((0 : Int32).toInt.toNat) (.int (b2 (bif decide ((iv N2 188 y.toInt.toNat).toInt < (iv N2 200 (((40 : Int32) * (iv N2 186 y.toInt.toNat)) + x).toInt.toNat).toInt) then false else true))) := ⟨_, rfl⟩
  obtain ⟨bd8, h⟩ := eIast (x := (0 : Int32)) (N := N9) hSN2 (a := 216) (by decide) (by decide) eN9 (mi := 220) (pc := 43) (len := 1) rfl h
  replace eN9 : N9 = mPut N2 216 0 (.int (b2 (bif decide ((iv N2 188 y.toInt.toNat).toInt < (iv N2 200 (((40 : Int32) * (iv N2 186 y.toInt.toNat)) + x).toInt.toNat).toInt) then false else true))) := eN9
  have evN9 : (b2 (bif decide ((iv N2 188 y.toInt.toNat).toInt < (iv N2 200 (((40 : Int32) * (iv N2 186 y.toInt.toNat)) + x).toInt.toNat).toInt) then false else true)) = b2 (!decide ((iv M (10 + y.toInt.toNat) 3).toInt < (iv M (100 + (iv M (10 + y.toInt.toNat) 1).toInt.toNat) x.toInt.toNat).toInt)) := by rw [bif_nb, AL_3 hAN2.1 hy, AL_1 hAN2.1 hy, kn_ix (y := y) (x := x) hA.2.2.2.1 (hA.2.2.2.2 y.toInt.toNat (by omega)) (by omega) x0 (by omega), FzD.si (c := 200) (FzD.fx fxN2) (by decide) (by decide), hK (iv M (10 + y.toInt.toNat) 1).toInt.toNat (by have := hA.2.2.2.2 y.toInt.toNat (by omega); omega) _ hx]
  rw [evN9] at eN9
  have hS10 : Sh N9 := by rw [eN9]; exact hSN2.put (by decide) (by decide) rfl
  have hKN9 := TK.put hKN2 hSN2 (by decide) (by decide) rfl (by decide) eN9
  have fxN9 : Fx 216 216 N N9 := fxN2.tr (by rw [eN9]; exact Fx.put (by decide) (by decide))
  have hAN9 := AR_d hA (FzD.fx fxN9)
  replace h := eAload (mi := 220) (pc := 44) (len := 1) (i := 0) rfl rfl h
  replace h := eGetR (a := 181) (j := 1147) (g := 216) hS10 (by decide) (by decide) rfl rfl rfl (mi := 220) (pc := 45) (len := 3) rfl h
  replace h := eConst (mi := 220) (pc := 48) (len := 1) (v := 1) rfl h
  replace h := eAload (mi := 220) (pc := 49) (len := 1) (i := 0) rfl rfl h
  replace h := eIload (mi := 220) (pc := 50) (len := 1) (i := 2) rfl rfl h
  replace h := eIload (mi := 220) (pc := 51) (len := 1) (i := 1) rfl rfl h
  replace h := eAload (mi := 220) (pc := 52) (len := 1) (i := 0) rfl rfl h
  replace h := eGetR (a := 181) (j := 1108) (g := 188) hS10 (by decide) (by decide) rfl rfl rfl (mi := 220) (pc := 53) (len := 3) rfl h
  replace h := eIload (mi := 220) (pc := 56) (len := 1) (i := 3) rfl rfl h
  obtain ⟨bd11, h⟩ := eIald (x := y) hS10 (a := 188) (by decide) (by decide) rfl (mi := 220) (pc := 57) (len := 1) rfl h
  replace h := eCallP (mi := 220) (pc := 58) (len := 3) (j := 217) (as := [.ref 181, .int x, .int s, .int (iv N9 188 y.toInt.toNat)]) (rest := [.int (1 : Int32), .ref 216]) rfl (Or.inr (Or.inl rfl)) (by decide) rfl rfl (fun _ _ _ _ g => rFind_en hS10 g) h
  replace h : En n d 220 69 (lv_args 0 [.ref 181, .int s, .int x, .int y, .int t, .int c]) [.int (b2 (bif rFind N9 x s (iv N9 188 y.toInt.toNat) then true else false)), .int (1 : Int32), .ref 216] N9 r M1 := by
    rcases eIf (mi := 220) (pc := 61) (len := 3) (t := 68) rfl rfl h with ⟨c12, h⟩ | ⟨c12, h⟩
    · replace c12 : rFind N9 x s (iv N9 188 y.toInt.toNat) = false := mB_eq.1 c12
      replace h := eConst (mi := 220) (pc := 68) (len := 1) (v := 0) rfl h
      have e3 : (bif rFind N9 x s (iv N9 188 y.toInt.toNat) then true else false) = false := by
        simp only [c12, cond_true, cond_false]
      rw [e3]
      exact h
    · replace c12 : rFind N9 x s (iv N9 188 y.toInt.toNat) = true := mB_eq.2 c12
      replace h := eConst (mi := 220) (pc := 64) (len := 1) (v := 1) rfl h
      replace h := eGoto (mi := 220) (pc := 65) (len := 3) (t := 69) rfl rfl h
      have e3 : (bif rFind N9 x s (iv N9 188 y.toInt.toNat) then true else false) = true := by
        simp only [c12, cond_true, cond_false]
      rw [e3]
      exact h
  obtain ⟨N14, eN14⟩ : ∃ X_, X_ = mPut N9 216 ((1 : Int32).toInt.toNat) (.int (b2 (bif rFind N9 x s (iv N9 188 y.toInt.toNat) then true else false))) := ⟨_, rfl⟩
  obtain ⟨bd13, h⟩ := eIast (x := (1 : Int32)) (N := N14) hS10 (a := 216) (by decide) (by decide) eN14 (mi := 220) (pc := 69) (len := 1) rfl h
  replace eN14 : N14 = mPut N9 216 1 (.int (b2 (bif rFind N9 x s (iv N9 188 y.toInt.toNat) then true else false))) := eN14
  have evN14 : (b2 (bif rFind N9 x s (iv N9 188 y.toInt.toNat) then true else false)) = b2 (findC M x.toInt.toNat s (iv M (10 + y.toInt.toNat) 3)) := by rw [bif_b, AL_3 hAN9.1 hy, rFind_eq (u := (iv M (10 + y.toInt.toNat) 3)) hAN9.1 hA.2.2.2.1 hx hs (by omega)]
  rw [evN14] at eN14
  have hS15 : Sh N14 := by rw [eN14]; exact hS10.put (by decide) (by decide) rfl
  have hKN14 := TK.put hKN9 hS10 (by decide) (by decide) rfl (by decide) eN14
  have fxN14 : Fx 216 216 N N14 := fxN9.tr (by rw [eN14]; exact Fx.put (by decide) (by decide))
  have hAN14 := AR_d hA (FzD.fx fxN14)
  replace h := eAload (mi := 220) (pc := 70) (len := 1) (i := 0) rfl rfl h
  replace h := eGetR (a := 181) (j := 1147) (g := 216) hS15 (by decide) (by decide) rfl rfl rfl (mi := 220) (pc := 71) (len := 3) rfl h
  replace h := eConst (mi := 220) (pc := 74) (len := 1) (v := 2) rfl h
  replace h := eAload (mi := 220) (pc := 75) (len := 1) (i := 0) rfl rfl h
  replace h := eIload (mi := 220) (pc := 76) (len := 1) (i := 3) rfl rfl h
  replace h := eIload (mi := 220) (pc := 77) (len := 2) (i := 4) rfl rfl h
  replace h := eCallP (mi := 220) (pc := 79) (len := 3) (j := 180) (as := [.ref 181, .int y, .int t]) (rest := [.int (2 : Int32), .ref 216]) rfl (Or.inr (Or.inl rfl)) (by decide) rfl rfl (fun _ _ _ _ g => rEnt_en hS15 g) h
  replace h : En n d 220 115 (lv_args 0 [.ref 181, .int s, .int x, .int y, .int t, .int c]) [.int (b2 (bif rEnt N14 y t then (bif rEnt N14 x t then (bif decide ((iv N14 191 y.toInt.toNat).toInt < (iv N14 191 x.toInt.toNat).toInt) then true else false) else true) else false)), .int (2 : Int32), .ref 216] N14 r M1 := by
    rcases eIf (mi := 220) (pc := 82) (len := 3) (t := 114) rfl rfl h with ⟨c16, h⟩ | ⟨c16, h⟩
    · replace c16 : rEnt N14 y t = false := mB_eq.1 c16
      replace h := eConst (mi := 220) (pc := 114) (len := 1) (v := 0) rfl h
      have e3 : (bif rEnt N14 y t then (bif rEnt N14 x t then (bif decide ((iv N14 191 y.toInt.toNat).toInt < (iv N14 191 x.toInt.toNat).toInt) then true else false) else true) else false) = false := by
        simp only [c16, cond_true, cond_false]
      rw [e3]
      exact h
    · replace c16 : rEnt N14 y t = true := mB_eq.2 c16
      replace h := eAload (mi := 220) (pc := 85) (len := 1) (i := 0) rfl rfl h
      replace h := eIload (mi := 220) (pc := 86) (len := 1) (i := 2) rfl rfl h
      replace h := eIload (mi := 220) (pc := 87) (len := 2) (i := 4) rfl rfl h
      replace h := eCallP (mi := 220) (pc := 89) (len := 3) (j := 180) (as := [.ref 181, .int x, .int t]) (rest := [.int (2 : Int32), .ref 216]) rfl (Or.inr (Or.inl rfl)) (by decide) rfl rfl (fun _ _ _ _ g => rEnt_en hS15 g) h
      rcases eIf (mi := 220) (pc := 92) (len := 3) (t := 110) rfl rfl h with ⟨c17, h⟩ | ⟨c17, h⟩
      · replace c17 : rEnt N14 x t = false := mB_eq.1 c17
        replace h := eConst (mi := 220) (pc := 110) (len := 1) (v := 1) rfl h
        replace h := eGoto (mi := 220) (pc := 111) (len := 3) (t := 115) rfl rfl h
        have e3 : (bif rEnt N14 y t then (bif rEnt N14 x t then (bif decide ((iv N14 191 y.toInt.toNat).toInt < (iv N14 191 x.toInt.toNat).toInt) then true else false) else true) else false) = true := by
          simp only [c16, c17, cond_true, cond_false]
        rw [e3]
        exact h
      · replace c17 : rEnt N14 x t = true := mB_eq.2 c17
        replace h := eAload (mi := 220) (pc := 95) (len := 1) (i := 0) rfl rfl h
        replace h := eGetR (a := 181) (j := 1111) (g := 191) hS15 (by decide) (by decide) rfl rfl rfl (mi := 220) (pc := 96) (len := 3) rfl h
        replace h := eIload (mi := 220) (pc := 99) (len := 1) (i := 3) rfl rfl h
        obtain ⟨bd18, h⟩ := eIald (x := y) hS15 (a := 191) (by decide) (by decide) rfl (mi := 220) (pc := 100) (len := 1) rfl h
        replace h := eAload (mi := 220) (pc := 101) (len := 1) (i := 0) rfl rfl h
        replace h := eGetR (a := 181) (j := 1111) (g := 191) hS15 (by decide) (by decide) rfl rfl rfl (mi := 220) (pc := 102) (len := 3) rfl h
        replace h := eIload (mi := 220) (pc := 105) (len := 1) (i := 2) rfl rfl h
        obtain ⟨bd19, h⟩ := eIald (x := x) hS15 (a := 191) (by decide) (by decide) rfl (mi := 220) (pc := 106) (len := 1) rfl h
        rcases eIc (mi := 220) (pc := 107) (len := 3) (t := 114) rfl rfl h with ⟨c20, h⟩ | ⟨c20, h⟩
        · replace c20 : ¬ (iv N14 191 y.toInt.toNat).toInt < (iv N14 191 x.toInt.toNat).toInt := mC_ge.1 c20
          replace h := eConst (mi := 220) (pc := 114) (len := 1) (v := 0) rfl h
          have e3 : (bif rEnt N14 y t then (bif rEnt N14 x t then (bif decide ((iv N14 191 y.toInt.toNat).toInt < (iv N14 191 x.toInt.toNat).toInt) then true else false) else true) else false) = false := by
            simp only [c16, c17, decide_eq_false c20, cond_true, cond_false]
          rw [e3]
          exact h
        · replace c20 : (iv N14 191 y.toInt.toNat).toInt < (iv N14 191 x.toInt.toNat).toInt := mC_ge.2 c20
          replace h := eConst (mi := 220) (pc := 110) (len := 1) (v := 1) rfl h
          replace h := eGoto (mi := 220) (pc := 111) (len := 3) (t := 115) rfl rfl h
          have e3 : (bif rEnt N14 y t then (bif rEnt N14 x t then (bif decide ((iv N14 191 y.toInt.toNat).toInt < (iv N14 191 x.toInt.toNat).toInt) then true else false) else true) else false) = true := by
            simp only [c16, c17, decide_eq_true c20, cond_true, cond_false]
          rw [e3]
          exact h
  obtain ⟨N22, eN22⟩ : ∃ X_, X_ = mPut N14 216 ((2 : Int32).toInt.toNat) (.int (b2 (bif rEnt N14 y t then (bif rEnt N14 x t then (bif decide ((iv N14 191 y.toInt.toNat).toInt < (iv N14 191 x.toInt.toNat).toInt) then true else false) else true) else false))) := ⟨_, rfl⟩
  obtain ⟨bd21, h⟩ := eIast (x := (2 : Int32)) (N := N22) hS15 (a := 216) (by decide) (by decide) eN22 (mi := 220) (pc := 115) (len := 1) rfl h
  replace eN22 : N22 = mPut N14 216 2 (.int (b2 (bif rEnt N14 y t then (bif rEnt N14 x t then (bif decide ((iv N14 191 y.toInt.toNat).toInt < (iv N14 191 x.toInt.toNat).toInt) then true else false) else true) else false))) := eN22
  have evN22 : (b2 (bif rEnt N14 y t then (bif rEnt N14 x t then (bif decide ((iv N14 191 y.toInt.toNat).toInt < (iv N14 191 x.toInt.toNat).toInt) then true else false) else true) else false)) = b2 (!decide (t.toInt < (iv M (10 + y.toInt.toNat) 7).toInt) && decide ((iv M (10 + y.toInt.toNat) 7).toInt < (iv M (10 + x.toInt.toNat) 7).toInt)) := by rw [ent_c hAN14.1 hx hy (by omega)]
  rw [evN22] at eN22
  have hS23 : Sh N22 := by rw [eN22]; exact hS15.put (by decide) (by decide) rfl
  have hKN22 := TK.put hKN14 hS15 (by decide) (by decide) rfl (by decide) eN22
  have fxN22 : Fx 216 216 N N22 := fxN14.tr (by rw [eN22]; exact Fx.put (by decide) (by decide))
  have hAN22 := AR_d hA (FzD.fx fxN22)
  replace h := eAload (mi := 220) (pc := 116) (len := 1) (i := 0) rfl rfl h
  replace h := eGetR (a := 181) (j := 1147) (g := 216) hS23 (by decide) (by decide) rfl rfl rfl (mi := 220) (pc := 117) (len := 3) rfl h
  replace h := eConst (mi := 220) (pc := 120) (len := 1) (v := 4) rfl h
  replace h := eAload (mi := 220) (pc := 121) (len := 1) (i := 0) rfl rfl h
  replace h := eIload (mi := 220) (pc := 122) (len := 1) (i := 3) rfl rfl h
  replace h := eIload (mi := 220) (pc := 123) (len := 2) (i := 4) rfl rfl h
  replace h := eCallP (mi := 220) (pc := 125) (len := 3) (j := 180) (as := [.ref 181, .int y, .int t]) (rest := [.int (4 : Int32), .ref 216]) rfl (Or.inr (Or.inl rfl)) (by decide) rfl rfl (fun _ _ _ _ g => rEnt_en hS23 g) h
  replace h : En n d 220 136 (lv_args 0 [.ref 181, .int s, .int x, .int y, .int t, .int c]) [.int (b2 (bif rEnt N22 y t then true else false)), .int (4 : Int32), .ref 216] N22 r M1 := by
    rcases eIf (mi := 220) (pc := 128) (len := 3) (t := 135) rfl rfl h with ⟨c24, h⟩ | ⟨c24, h⟩
    · replace c24 : rEnt N22 y t = false := mB_eq.1 c24
      replace h := eConst (mi := 220) (pc := 135) (len := 1) (v := 0) rfl h
      have e3 : (bif rEnt N22 y t then true else false) = false := by
        simp only [c24, cond_true, cond_false]
      rw [e3]
      exact h
    · replace c24 : rEnt N22 y t = true := mB_eq.2 c24
      replace h := eConst (mi := 220) (pc := 131) (len := 1) (v := 1) rfl h
      replace h := eGoto (mi := 220) (pc := 132) (len := 3) (t := 136) rfl rfl h
      have e3 : (bif rEnt N22 y t then true else false) = true := by
        simp only [c24, cond_true, cond_false]
      rw [e3]
      exact h
  obtain ⟨N26, eN26⟩ : ∃ X_, X_ = mPut N22 216 ((4 : Int32).toInt.toNat) (.int (b2 (bif rEnt N22 y t then true else false))) := ⟨_, rfl⟩
  obtain ⟨bd25, h⟩ := eIast (x := (4 : Int32)) (N := N26) hS23 (a := 216) (by decide) (by decide) eN26 (mi := 220) (pc := 136) (len := 1) rfl h
  replace eN26 : N26 = mPut N22 216 4 (.int (b2 (bif rEnt N22 y t then true else false))) := eN26
  have evN26 : (b2 (bif rEnt N22 y t then true else false)) = b2 (!decide (t.toInt < (iv M (10 + y.toInt.toNat) 7).toInt)) := by rw [bif_b, rEnt_eq (u := t) hAN22.1 hy (by omega)]
  rw [evN26] at eN26
  have hS27 : Sh N26 := by rw [eN26]; exact hS23.put (by decide) (by decide) rfl
  have hKN26 := TK.put hKN22 hS23 (by decide) (by decide) rfl (by decide) eN26
  have fxN26 : Fx 216 216 N N26 := fxN22.tr (by rw [eN26]; exact Fx.put (by decide) (by decide))
  have hAN26 := AR_d hA (FzD.fx fxN26)
  replace h := eAload (mi := 220) (pc := 137) (len := 1) (i := 0) rfl rfl h
  replace h := eGetR (a := 181) (j := 1147) (g := 216) hS27 (by decide) (by decide) rfl rfl rfl (mi := 220) (pc := 138) (len := 3) rfl h
  replace h := eConst (mi := 220) (pc := 141) (len := 1) (v := 5) rfl h
  replace h := eAload (mi := 220) (pc := 142) (len := 1) (i := 0) rfl rfl h
  replace h := eGetR (a := 181) (j := 1110) (g := 190) hS27 (by decide) (by decide) rfl rfl rfl (mi := 220) (pc := 143) (len := 3) rfl h
  replace h := eIload (mi := 220) (pc := 146) (len := 1) (i := 3) rfl rfl h
  obtain ⟨bd28, h⟩ := eIald (x := y) hS27 (a := 190) (by decide) (by decide) rfl (mi := 220) (pc := 147) (len := 1) rfl h
  obtain ⟨N30, eN30⟩ : ∃ X_, X_ = mPut N26 216 ((5 : Int32).toInt.toNat) (.int (iv N26 190 y.toInt.toNat)) := ⟨_, rfl⟩
  obtain ⟨bd29, h⟩ := eIast (x := (5 : Int32)) (N := N30) hS27 (a := 216) (by decide) (by decide) eN30 (mi := 220) (pc := 148) (len := 1) rfl h
  replace eN30 : N30 = mPut N26 216 5 (.int (iv N26 190 y.toInt.toNat)) := eN30
  have evN30 : (iv N26 190 y.toInt.toNat) = iv M (10 + y.toInt.toNat) 5 := by exact AL_5 hAN26.1 hy
  rw [evN30] at eN30
  have hS31 : Sh N30 := by rw [eN30]; exact hS27.put (by decide) (by decide) rfl
  have hKN30 := TK.put hKN26 hS27 (by decide) (by decide) rfl (by decide) eN30
  have fxN30 : Fx 216 216 N N30 := fxN26.tr (by rw [eN30]; exact Fx.put (by decide) (by decide))
  have hAN30 := AR_d hA (FzD.fx fxN30)
  replace h := eAload (mi := 220) (pc := 149) (len := 1) (i := 0) rfl rfl h
  replace h := eGetR (a := 181) (j := 1147) (g := 216) hS31 (by decide) (by decide) rfl rfl rfl (mi := 220) (pc := 150) (len := 3) rfl h
  replace h := eConst (mi := 220) (pc := 153) (len := 2) (v := 7) rfl h
  replace h := eAload (mi := 220) (pc := 155) (len := 1) (i := 0) rfl rfl h
  replace h := eGetR (a := 181) (j := 1108) (g := 188) hS31 (by decide) (by decide) rfl rfl rfl (mi := 220) (pc := 156) (len := 3) rfl h
  replace h := eIload (mi := 220) (pc := 159) (len := 1) (i := 3) rfl rfl h
  obtain ⟨bd32, h⟩ := eIald (x := y) hS31 (a := 188) (by decide) (by decide) rfl (mi := 220) (pc := 160) (len := 1) rfl h
  replace h := eAload (mi := 220) (pc := 161) (len := 1) (i := 0) rfl rfl h
  replace h := eGetR (a := 181) (j := 1108) (g := 188) hS31 (by decide) (by decide) rfl rfl rfl (mi := 220) (pc := 162) (len := 3) rfl h
  replace h := eIload (mi := 220) (pc := 165) (len := 1) (i := 2) rfl rfl h
  obtain ⟨bd33, h⟩ := eIald (x := x) hS31 (a := 188) (by decide) (by decide) rfl (mi := 220) (pc := 166) (len := 1) rfl h
  replace h := eSub (mi := 220) (pc := 167) (len := 1) rfl h
  obtain ⟨N35, eN35⟩ : ∃ X_, X_ = mPut N30 216 ((7 : Int32).toInt.toNat) (.int ((iv N30 188 y.toInt.toNat) - (iv N30 188 x.toInt.toNat))) := ⟨_, rfl⟩
  obtain ⟨bd34, h⟩ := eIast (x := (7 : Int32)) (N := N35) hS31 (a := 216) (by decide) (by decide) eN35 (mi := 220) (pc := 168) (len := 1) rfl h
  replace eN35 : N35 = mPut N30 216 7 (.int ((iv N30 188 y.toInt.toNat) - (iv N30 188 x.toInt.toNat))) := eN35
  have evN35 : ((iv N30 188 y.toInt.toNat) - (iv N30 188 x.toInt.toNat)) = iv M (10 + y.toInt.toNat) 3 - iv M (10 + x.toInt.toNat) 3 := by rw [AL_3 hAN30.1 hy, AL_3 hAN30.1 hx]
  rw [evN35] at eN35
  have hS36 : Sh N35 := by rw [eN35]; exact hS31.put (by decide) (by decide) rfl
  have hKN35 := TK.put hKN30 hS31 (by decide) (by decide) rfl (by decide) eN35
  have fxN35 : Fx 216 216 N N35 := fxN30.tr (by rw [eN35]; exact Fx.put (by decide) (by decide))
  have hAN35 := AR_d hA (FzD.fx fxN35)
  replace h := eAload (mi := 220) (pc := 169) (len := 1) (i := 0) rfl rfl h
  replace h := eGetR (a := 181) (j := 1147) (g := 216) hS36 (by decide) (by decide) rfl rfl rfl (mi := 220) (pc := 170) (len := 3) rfl h
  replace h := eConst (mi := 220) (pc := 173) (len := 2) (v := 9) rfl h
  replace h := eAload (mi := 220) (pc := 175) (len := 1) (i := 0) rfl rfl h
  replace h := eIload (mi := 220) (pc := 176) (len := 1) (i := 2) rfl rfl h
  replace h := eIload (mi := 220) (pc := 177) (len := 1) (i := 1) rfl rfl h
  replace h := eAload (mi := 220) (pc := 178) (len := 1) (i := 0) rfl rfl h
  replace h := eGetR (a := 181) (j := 1108) (g := 188) hS36 (by decide) (by decide) rfl rfl rfl (mi := 220) (pc := 179) (len := 3) rfl h
  replace h := eIload (mi := 220) (pc := 182) (len := 1) (i := 3) rfl rfl h
  obtain ⟨bd37, h⟩ := eIald (x := y) hS36 (a := 188) (by decide) (by decide) rfl (mi := 220) (pc := 183) (len := 1) rfl h
  replace h := eCallP (mi := 220) (pc := 184) (len := 3) (j := 216) (as := [.ref 181, .int x, .int s, .int (iv N35 188 y.toInt.toNat)]) (rest := [.int (9 : Int32), .ref 216]) rfl (Or.inr (Or.inl rfl)) (by decide) rfl rfl (fun _ _ _ _ g => rWild_en hS36 g) h
  replace h : En n d 220 195 (lv_args 0 [.ref 181, .int s, .int x, .int y, .int t, .int c]) [.int (b2 (bif rWild N35 x s (iv N35 188 y.toInt.toNat) then true else false)), .int (9 : Int32), .ref 216] N35 r M1 := by
    rcases eIf (mi := 220) (pc := 187) (len := 3) (t := 194) rfl rfl h with ⟨c38, h⟩ | ⟨c38, h⟩
    · replace c38 : rWild N35 x s (iv N35 188 y.toInt.toNat) = false := mB_eq.1 c38
      replace h := eConst (mi := 220) (pc := 194) (len := 1) (v := 0) rfl h
      have e3 : (bif rWild N35 x s (iv N35 188 y.toInt.toNat) then true else false) = false := by
        simp only [c38, cond_true, cond_false]
      rw [e3]
      exact h
    · replace c38 : rWild N35 x s (iv N35 188 y.toInt.toNat) = true := mB_eq.2 c38
      replace h := eConst (mi := 220) (pc := 190) (len := 1) (v := 1) rfl h
      replace h := eGoto (mi := 220) (pc := 191) (len := 3) (t := 195) rfl rfl h
      have e3 : (bif rWild N35 x s (iv N35 188 y.toInt.toNat) then true else false) = true := by
        simp only [c38, cond_true, cond_false]
      rw [e3]
      exact h
  obtain ⟨N40, eN40⟩ : ∃ X_, X_ = mPut N35 216 ((9 : Int32).toInt.toNat) (.int (b2 (bif rWild N35 x s (iv N35 188 y.toInt.toNat) then true else false))) := ⟨_, rfl⟩
  obtain ⟨bd39, h⟩ := eIast (x := (9 : Int32)) (N := N40) hS36 (a := 216) (by decide) (by decide) eN40 (mi := 220) (pc := 195) (len := 1) rfl h
  replace eN40 : N40 = mPut N35 216 9 (.int (b2 (bif rWild N35 x s (iv N35 188 y.toInt.toNat) then true else false))) := eN40
  have evN40 : (b2 (bif rWild N35 x s (iv N35 188 y.toInt.toNat) then true else false)) = b2 (wildC M x.toInt.toNat s (iv M (10 + y.toInt.toNat) 3)) := by rw [bif_b, AL_3 hAN35.1 hy, rWild_eq (u := (iv M (10 + y.toInt.toNat) 3)) hAN35.1 hA.2.2.2.1 hx hs (by omega)]
  rw [evN40] at eN40
  have hS41 : Sh N40 := by rw [eN40]; exact hS36.put (by decide) (by decide) rfl
  have hKN40 := TK.put hKN35 hS36 (by decide) (by decide) rfl (by decide) eN40
  have fxN40 : Fx 216 216 N N40 := fxN35.tr (by rw [eN40]; exact Fx.put (by decide) (by decide))
  have hAN40 := AR_d hA (FzD.fx fxN40)
  replace h := eAload (mi := 220) (pc := 196) (len := 1) (i := 0) rfl rfl h
  replace h := eAload (mi := 220) (pc := 197) (len := 1) (i := 0) rfl rfl h
  replace h := eGetR (a := 181) (j := 1104) (g := 184) hS41 (by decide) (by decide) rfl rfl rfl (mi := 220) (pc := 198) (len := 3) rfl h
  replace h := eIload (mi := 220) (pc := 201) (len := 1) (i := 1) rfl rfl h
  obtain ⟨bd42, h⟩ := eIald (x := s) hS41 (a := 184) (by decide) (by decide) rfl (mi := 220) (pc := 202) (len := 1) rfl h
  replace h := eIload (mi := 220) (pc := 203) (len := 2) (i := 5) rfl rfl h
  obtain ⟨r43, N44, g45, h⟩ := eCall (mi := 220) (pc := 205) (len := 3) (j := 215) (as := [.ref 181, .int (iv N40 184 s.toInt.toNat), .int c]) (rest := []) rfl (Or.inr (Or.inl rfl)) (by decide) rfl rfl h
  have hf : ∀ v : Nat, v < 14 → iv N40 216 v = fcF M s t x.toInt.toNat y.toInt.toNat v := by
    intro v hv
    have e : v = 0 ∨ v = 1 ∨ v = 2 ∨ v = 3 ∨ v = 4 ∨ v = 5 ∨ v = 6 ∨ v = 7 ∨ v = 8 ∨ v = 9 ∨ v = 10 ∨ v = 11 ∨ v = 12 ∨ v = 13 := by omega
    rcases e with rfl | rfl | rfl | rfl | rfl | rfl | rfl | rfl | rfl | rfl | rfl | rfl | rfl | rfl <;> exact hKN40 _ (by decide)
  have hq : (iv N40 184 s.toInt.toNat).toInt = (lwK M s : Int) := by rw [hAN40.2.2.1 _ hs]; unfold lwK; omega
  have hG := RG2_of (fc := fcF M s t x.toInt.toNat y.toInt.toNat) hk3 (hW _ hk3).1 (fun c i a b => (fxN40.si (Or.inl (by omega))).trans (hP c i a b)) hf
  obtain ⟨gb, er, gq, hSz, fz⟩ := any_en hq hc hS41 hG g45
  have ge : gb = btF M W s t lt x.toInt.toNat y.toInt.toNat := grF_of gq
  rw [er] at h
  have fd : FzD N N44 := (FzD.fx fxN40).tr (FzD.fr fz)
  obtain ⟨e1, e2⟩ := eRetI (mi := 220) (pc := 208) (len := 1) rfl h
  rw [e2, ← ge]
  exact ⟨e1, hSz, fd⟩
/-- knowledge is laid: nothing else changes -/
def FzK (M N : Mem) : Prop := ∀ c i, c ≠ 200 → c ≠ 201 → mSlot N c i = mSlot M c i
theorem FzK.si {M N : Mem} (h : FzK M N) {c i : Nat} (p : c ≠ 200) (q : c ≠ 201) : iv N c i = iv M c i := by unfold iv; rw [h c i p q]
def lysK (M N : Mem) (n0 : Nat) : Prop := ∀ n d r N1, En n d 188 0 (lv_args 0 [.ref 181]) [] N r N1 → r = none ∧ Sh N1 ∧ FzK N N1 ∧ knR M N1 n0
theorem bG_eq {M N : Mem} {n0 : Nat} (hA : AL M N n0) (s x y t w : Int32) : (rStr s && (rDeed N x && (rDeed N y && (rOf N x s && (rOf N y s && (rAhd N x y && (rDay t && rIn w 0 1))))))) = (bDOf M x s && (bDOf M y s && (bDay t && (bIn w 2 && bAhd M x y)))) := by
  unfold bDOf
  rw [rStr_eq, rDeed_eq hA, rDeed_eq hA, rDay_eq, rIn_eq1]
  cases bStr s with
  | false => cases bDeed M x <;> rfl
  | true =>
    cases hx : bDeed M x with
    | false => rfl
    | true =>
      cases hy : bDeed M y with
      | false => cases bOf M x.toInt.toNat s <;> rfl
      | true =>
        rw [rOf_eq hA (bDeed_true hA hx).2, rOf_eq hA (bDeed_true hA hy).2, rAhd_eq hA (bDeed_true hA hx).2 (bDeed_true hA hy).2]
        cases bOf M x.toInt.toNat s <;> cases bOf M y.toInt.toNat s <;> cases bAhd M x y <;> cases bDay t <;> cases bIn w 2 <;> rfl
theorem bt_w {M : Mem} {W : Nat → WL} {s t w : Int32} {x y : Nat} : b2 (btF M W s t (bif decide (w.toInt = 0) then 98 else 115) x y) = (bif decide (w.toInt = 0) then b2 (btF M W s t 98 x y) else b2 (btF M W s t 115 x y)) := by
  cases decide (w.toInt = 0) <;> rfl
theorem beatsR_en {M N : Mem} {W : Nat → WL} {n0 : Nat} {s x y t w : Int32} (hS : Sh N) (hA : AR M N n0) (hL : lysK M N n0) (hW : lwOk M W) (hP : ∀ c i, 209 ≤ c → c ≤ 214 → iv N c i = iv M c i) (hL6 : ∀ s, s < 8 → 0 ≤ (iv M 6 s).toInt ∧ (iv M 6 s).toInt ≤ 2) (hd9 : ∀ e, e < n0 → (iv M (10 + e) 3).toInt ≤ 999) {n d : Nat} {r : Option Value} {M1 : Mem} (h : En n d 222 0 (lv_args 0 [.ref 181, .int s, .int x, .int y, .int t, .int w]) [] N r M1) : ∃ b, r = some (.int b) ∧ beatsC M W s x y t w b := by
  replace h := eIload (mi := 222) (pc := 0) (len := 1) (i := 1) rfl rfl h
  replace h := eCallP (mi := 222) (pc := 1) (len := 3) (j := 163) (as := [.int s]) (rest := []) rfl (Or.inl rfl) (by decide) rfl rfl (fun _ _ _ _ g => rStr_en hS g) h
  rcases eIf (mi := 222) (pc := 4) (len := 3) (t := 68) rfl rfl h with ⟨c1, h⟩ | ⟨c1, h⟩
  · replace c1 : rStr s = false := mB_eq.1 c1
    replace h := eConst (mi := 222) (pc := 68) (len := 1) (v := (-1)) rfl h
    obtain ⟨e1, e2⟩ := eRetI (mi := 222) (pc := 69) (len := 1) rfl h
    refine ⟨_, e1, ?_⟩
    unfold beatsC
    rw [← bG_eq hA.1]
    simp only [c1, Bool.true_and, Bool.false_and, Bool.and_true, Bool.and_false, cond_true, cond_false] <;> rfl
  · replace c1 : rStr s = true := mB_eq.2 c1
    replace h := eAload (mi := 222) (pc := 7) (len := 1) (i := 0) rfl rfl h
    replace h := eIload (mi := 222) (pc := 8) (len := 1) (i := 2) rfl rfl h
    replace h := eCallP (mi := 222) (pc := 9) (len := 3) (j := 164) (as := [.ref 181, .int x]) (rest := []) rfl (Or.inr (Or.inl rfl)) (by decide) rfl rfl (fun _ _ _ _ g => rDeed_en hS g) h
    rcases eIf (mi := 222) (pc := 12) (len := 3) (t := 68) rfl rfl h with ⟨c2, h⟩ | ⟨c2, h⟩
    · replace c2 : rDeed N x = false := mB_eq.1 c2
      replace h := eConst (mi := 222) (pc := 68) (len := 1) (v := (-1)) rfl h
      obtain ⟨e1, e2⟩ := eRetI (mi := 222) (pc := 69) (len := 1) rfl h
      refine ⟨_, e1, ?_⟩
      unfold beatsC
      rw [← bG_eq hA.1]
      simp only [c1, c2, Bool.true_and, Bool.false_and, Bool.and_true, Bool.and_false, cond_true, cond_false] <;> rfl
    · replace c2 : rDeed N x = true := mB_eq.2 c2
      replace h := eAload (mi := 222) (pc := 15) (len := 1) (i := 0) rfl rfl h
      replace h := eIload (mi := 222) (pc := 16) (len := 1) (i := 3) rfl rfl h
      replace h := eCallP (mi := 222) (pc := 17) (len := 3) (j := 164) (as := [.ref 181, .int y]) (rest := []) rfl (Or.inr (Or.inl rfl)) (by decide) rfl rfl (fun _ _ _ _ g => rDeed_en hS g) h
      rcases eIf (mi := 222) (pc := 20) (len := 3) (t := 68) rfl rfl h with ⟨c3, h⟩ | ⟨c3, h⟩
      · replace c3 : rDeed N y = false := mB_eq.1 c3
        replace h := eConst (mi := 222) (pc := 68) (len := 1) (v := (-1)) rfl h
        obtain ⟨e1, e2⟩ := eRetI (mi := 222) (pc := 69) (len := 1) rfl h
        refine ⟨_, e1, ?_⟩
        unfold beatsC
        rw [← bG_eq hA.1]
        simp only [c1, c2, c3, Bool.true_and, Bool.false_and, Bool.and_true, Bool.and_false, cond_true, cond_false] <;> rfl
      · replace c3 : rDeed N y = true := mB_eq.2 c3
        replace h := eAload (mi := 222) (pc := 23) (len := 1) (i := 0) rfl rfl h
        replace h := eIload (mi := 222) (pc := 24) (len := 1) (i := 2) rfl rfl h
        replace h := eIload (mi := 222) (pc := 25) (len := 1) (i := 1) rfl rfl h
        replace h := eCallP (mi := 222) (pc := 26) (len := 3) (j := 178) (as := [.ref 181, .int x, .int s]) (rest := []) rfl (Or.inr (Or.inl rfl)) (by decide) rfl rfl (fun _ _ _ _ g => rOf_en hS g) h
        rcases eIf (mi := 222) (pc := 29) (len := 3) (t := 68) rfl rfl h with ⟨c4, h⟩ | ⟨c4, h⟩
        · replace c4 : rOf N x s = false := mB_eq.1 c4
          replace h := eConst (mi := 222) (pc := 68) (len := 1) (v := (-1)) rfl h
          obtain ⟨e1, e2⟩ := eRetI (mi := 222) (pc := 69) (len := 1) rfl h
          refine ⟨_, e1, ?_⟩
          unfold beatsC
          rw [← bG_eq hA.1]
          simp only [c1, c2, c3, c4, Bool.true_and, Bool.false_and, Bool.and_true, Bool.and_false, cond_true, cond_false] <;> rfl
        · replace c4 : rOf N x s = true := mB_eq.2 c4
          replace h := eAload (mi := 222) (pc := 32) (len := 1) (i := 0) rfl rfl h
          replace h := eIload (mi := 222) (pc := 33) (len := 1) (i := 3) rfl rfl h
          replace h := eIload (mi := 222) (pc := 34) (len := 1) (i := 1) rfl rfl h
          replace h := eCallP (mi := 222) (pc := 35) (len := 3) (j := 178) (as := [.ref 181, .int y, .int s]) (rest := []) rfl (Or.inr (Or.inl rfl)) (by decide) rfl rfl (fun _ _ _ _ g => rOf_en hS g) h
          rcases eIf (mi := 222) (pc := 38) (len := 3) (t := 68) rfl rfl h with ⟨c5, h⟩ | ⟨c5, h⟩
          · replace c5 : rOf N y s = false := mB_eq.1 c5
            replace h := eConst (mi := 222) (pc := 68) (len := 1) (v := (-1)) rfl h
            obtain ⟨e1, e2⟩ := eRetI (mi := 222) (pc := 69) (len := 1) rfl h
            refine ⟨_, e1, ?_⟩
            unfold beatsC
            rw [← bG_eq hA.1]
            simp only [c1, c2, c3, c4, c5, Bool.true_and, Bool.false_and, Bool.and_true, Bool.and_false, cond_true, cond_false] <;> rfl
          · replace c5 : rOf N y s = true := mB_eq.2 c5
            replace h := eAload (mi := 222) (pc := 41) (len := 1) (i := 0) rfl rfl h
            replace h := eIload (mi := 222) (pc := 42) (len := 1) (i := 2) rfl rfl h
            replace h := eIload (mi := 222) (pc := 43) (len := 1) (i := 3) rfl rfl h
            replace h := eCallP (mi := 222) (pc := 44) (len := 3) (j := 179) (as := [.ref 181, .int x, .int y]) (rest := []) rfl (Or.inr (Or.inl rfl)) (by decide) rfl rfl (fun _ _ _ _ g => rAhd_en hS g) h
            rcases eIf (mi := 222) (pc := 47) (len := 3) (t := 68) rfl rfl h with ⟨c6, h⟩ | ⟨c6, h⟩
            · replace c6 : rAhd N x y = false := mB_eq.1 c6
              replace h := eConst (mi := 222) (pc := 68) (len := 1) (v := (-1)) rfl h
              obtain ⟨e1, e2⟩ := eRetI (mi := 222) (pc := 69) (len := 1) rfl h
              refine ⟨_, e1, ?_⟩
              unfold beatsC
              rw [← bG_eq hA.1]
              simp only [c1, c2, c3, c4, c5, c6, Bool.true_and, Bool.false_and, Bool.and_true, Bool.and_false, cond_true, cond_false] <;> rfl
            · replace c6 : rAhd N x y = true := mB_eq.2 c6
              replace h := eIload (mi := 222) (pc := 50) (len := 2) (i := 4) rfl rfl h
              replace h := eCallP (mi := 222) (pc := 52) (len := 3) (j := 161) (as := [.int t]) (rest := []) rfl (Or.inl rfl) (by decide) rfl rfl (fun _ _ _ _ g => rDay_en hS g) h
              rcases eIf (mi := 222) (pc := 55) (len := 3) (t := 68) rfl rfl h with ⟨c7, h⟩ | ⟨c7, h⟩
              · replace c7 : rDay t = false := mB_eq.1 c7
                replace h := eConst (mi := 222) (pc := 68) (len := 1) (v := (-1)) rfl h
                obtain ⟨e1, e2⟩ := eRetI (mi := 222) (pc := 69) (len := 1) rfl h
                refine ⟨_, e1, ?_⟩
                unfold beatsC
                rw [← bG_eq hA.1]
                simp only [c1, c2, c3, c4, c5, c6, c7, Bool.true_and, Bool.false_and, Bool.and_true, Bool.and_false, cond_true, cond_false] <;> rfl
              · replace c7 : rDay t = true := mB_eq.2 c7
                replace h := eIload (mi := 222) (pc := 58) (len := 2) (i := 5) rfl rfl h
                replace h := eConst (mi := 222) (pc := 60) (len := 1) (v := 0) rfl h
                replace h := eConst (mi := 222) (pc := 61) (len := 1) (v := 1) rfl h
                replace h := eCallP (mi := 222) (pc := 62) (len := 3) (j := 160) (as := [.int w, .int (0 : Int32), .int (1 : Int32)]) (rest := []) rfl (Or.inl rfl) (by decide) rfl rfl (fun _ _ _ _ g => rIn_en hS g) h
                rcases eIf (mi := 222) (pc := 65) (len := 3) (t := 70) rfl rfl h with ⟨c8, h⟩ | ⟨c8, h⟩
                · replace c8 : rIn w (0 : Int32) (1 : Int32) = true := mB_ne.1 c8
                  replace h := eAload (mi := 222) (pc := 70) (len := 1) (i := 0) rfl rfl h
                  obtain ⟨r9, N10, g11, h⟩ := eCall (mi := 222) (pc := 71) (len := 3) (j := 188) (as := [.ref 181]) (rest := []) rfl (Or.inr (Or.inl rfl)) (by decide) rfl rfl h
                  obtain ⟨er, hS2, fk, hK⟩ := hL _ _ _ _ g11
                  rw [er] at h
                  have gx := bDeed_true hA.1 ((rDeed_eq hA.1 x).symm.trans c2)
                  have gy := bDeed_true hA.1 ((rDeed_eq hA.1 y).symm.trans c3)
                  have gs := bStr_true (show bStr s = true from c1)
                  have gt := bDay_true ((rDay_eq t).symm.trans c7)
                  have hk3 := hL6 _ (show s.toInt.toNat < 8 by omega)
                  have hA2 := AR_r hA (fun c i q => fk.si (by omega) (by omega))
                  replace h := eAload (mi := 222) (pc := 74) (len := 1) (i := 0) rfl rfl h
                  replace h := eIload (mi := 222) (pc := 75) (len := 1) (i := 1) rfl rfl h
                  replace h := eIload (mi := 222) (pc := 76) (len := 1) (i := 2) rfl rfl h
                  replace h := eIload (mi := 222) (pc := 77) (len := 1) (i := 3) rfl rfl h
                  replace h := eIload (mi := 222) (pc := 78) (len := 2) (i := 4) rfl rfl h
                  replace h := eIload (mi := 222) (pc := 80) (len := 2) (i := 5) rfl rfl h
                  replace h : En n d 222 92 (lv_args 0 [.ref 181, .int s, .int x, .int y, .int t, .int w]) [.int (bif decide (w.toInt = 0) then (98 : Int32) else (115 : Int32)), .int t, .int y, .int x, .int s, .ref 181] N10 r M1 := by
                    rcases eIf (mi := 222) (pc := 82) (len := 3) (t := 90) rfl rfl h with ⟨c12, h⟩ | ⟨c12, h⟩
                    · replace c12 : ¬ w.toInt = 0 := mC_ne.1 c12
                      replace h := eConst (mi := 222) (pc := 90) (len := 2) (v := 115) rfl h
                      have e3 : (bif decide (w.toInt = 0) then (98 : Int32) else (115 : Int32)) = (115 : Int32) := by
                        simp only [decide_eq_false c12, cond_true, cond_false]
                      rw [e3]
                      exact h
                    · replace c12 : w.toInt = 0 := mC_ne.2 c12
                      replace h := eConst (mi := 222) (pc := 85) (len := 2) (v := 98) rfl h
                      replace h := eGoto (mi := 222) (pc := 87) (len := 3) (t := 92) rfl rfl h
                      have e3 : (bif decide (w.toInt = 0) then (98 : Int32) else (115 : Int32)) = (98 : Int32) := by
                        simp only [decide_eq_true c12, cond_true, cond_false]
                      rw [e3]
                      exact h
                  obtain ⟨r13, N14, g15, h⟩ := eCall (mi := 222) (pc := 92) (len := 3) (j := 220) (as := [.ref 181, .int s, .int x, .int y, .int t, .int (bif decide (w.toInt = 0) then (98 : Int32) else (115 : Int32))]) (rest := []) rfl (Or.inr (Or.inl rfl)) (by decide) rfl rfl h
                  obtain ⟨er2, hS3, fd⟩ := does_en (lt := (bif decide (w.toInt = 0) then 98 else 115)) hS2 hA2 hK hW (fun c i a b => (fk.si (by omega) (by omega)).trans (hP c i a b)) (by omega) hk3.1 (show lwK M s < 3 by unfold lwK; omega) gx.1 gx.2 gy.2 hd9 (by omega) (by cases decide (w.toInt = 0) <;> rfl) g15
                  rw [er2] at h
                  replace h : En n d 222 103 (lv_args 0 [.ref 181, .int s, .int x, .int y, .int t, .int w]) [.int (b2 (bif (btF M W s t (bif decide (w.toInt = 0) then 98 else 115) x.toInt.toNat y.toInt.toNat) then true else false))] N14 r M1 := by
                    rcases eIf (mi := 222) (pc := 95) (len := 3) (t := 102) rfl rfl h with ⟨c16, h⟩ | ⟨c16, h⟩
                    · replace c16 : (btF M W s t (bif decide (w.toInt = 0) then 98 else 115) x.toInt.toNat y.toInt.toNat) = false := mB_eq.1 c16
                      replace h := eConst (mi := 222) (pc := 102) (len := 1) (v := 0) rfl h
                      have e3 : (bif (btF M W s t (bif decide (w.toInt = 0) then 98 else 115) x.toInt.toNat y.toInt.toNat) then true else false) = false := by
                        simp only [c16, cond_true, cond_false]
                      rw [e3]
                      exact h
                    · replace c16 : (btF M W s t (bif decide (w.toInt = 0) then 98 else 115) x.toInt.toNat y.toInt.toNat) = true := mB_eq.2 c16
                      replace h := eConst (mi := 222) (pc := 98) (len := 1) (v := 1) rfl h
                      replace h := eGoto (mi := 222) (pc := 99) (len := 3) (t := 103) rfl rfl h
                      have e3 : (bif (btF M W s t (bif decide (w.toInt = 0) then 98 else 115) x.toInt.toNat y.toInt.toNat) then true else false) = true := by
                        simp only [c16, cond_true, cond_false]
                      rw [e3]
                      exact h
                  obtain ⟨e1, e2⟩ := eRetI (mi := 222) (pc := 103) (len := 1) rfl h
                  refine ⟨_, e1, ?_⟩
                  unfold beatsC
                  rw [← bG_eq hA.1]
                  simp only [c1, c2, c3, c4, c5, c6, c7, c8, Bool.true_and, Bool.false_and, Bool.and_true, Bool.and_false, cond_true, cond_false]
                  exact (congrArg b2 bif_b).trans bt_w
                · replace c8 : rIn w (0 : Int32) (1 : Int32) = false := mB_ne.2 c8
                  replace h := eConst (mi := 222) (pc := 68) (len := 1) (v := (-1)) rfl h
                  obtain ⟨e1, e2⟩ := eRetI (mi := 222) (pc := 69) (len := 1) rfl h
                  refine ⟨_, e1, ?_⟩
                  unfold beatsC
                  rw [← bG_eq hA.1]
                  simp only [c1, c2, c3, c4, c5, c6, c7, c8, Bool.true_and, Bool.false_and, Bool.and_true, Bool.and_false, cond_true, cond_false] <;> rfl

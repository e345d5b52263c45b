/-! the reference's reader: its small methods (printed by fn17.py) -/
section
variable {n d mi pc len : Nat} {L : MLoc} {st : List Value} {M : Mem} {r : Option Value} {M1 : Mem}
theorem eDiv {x y : Int32} (hat : mAt mi pc = some (len, .idiv)) (hy : ¬ y = 0) (h : En n d mi pc L (.int y :: .int x :: st) M r M1) : En n d mi (pc + len) L (.int (x / y) :: st) M r M1 := En.pl (L := L) (st := .int y :: .int x :: st) (M := M) hat (if_neg hy) h
theorem eRem {x y : Int32} (hat : mAt mi pc = some (len, .irem)) (hy : ¬ y = 0) (h : En n d mi pc L (.int y :: .int x :: st) M r M1) : En n d mi (pc + len) L (.int (x - x / y * y) :: st) M r M1 := En.pl (L := L) (st := .int y :: .int x :: st) (M := M) hat (if_neg hy) h
theorem eTsw {t : Nat} {d0 lo hi o : Int} {offs : Array Int} {x : Int32} (hat : mAt mi pc = some (len, .tableswitch d0 lo hi offs)) (ho : (if x.toInt < lo ∨ hi < x.toInt then some d0 else offs[(x.toInt - lo).toNat]?) = some o) (hj : mJmp pc o = some t) (h : En n d mi pc L (.int x :: st) M r M1) : En n d mi t L st M r M1 :=
  En.pl hat (by unfold mStep; dsimp only; rw [ho]; dsimp only; rw [hj]) h
end
theorem ic1 {x : Int32} {v : Int} (h : x.toInt = v) (h1 : -1000 ≤ v) (h2 : v ≤ 1000) : (x + 1).toInt = v + 1 := by rw [i32_incU (by omega), h]
theorem dc1 {x : Int32} {v : Int} (h : x.toInt = v) (h1 : -1000 ≤ v) (h2 : v ≤ 1000) : (x - 1).toInt = v - 1 := by
  rw [i32_sub (by rw [h]; show -2147483648 ≤ v - 1; omega) (by rw [h]; show v - 1 ≤ 2147483647; omega), h]
  rfl
/-- the reference stands where the machine does -/
def RR (M : Mem) (r : PS) : Prop := Sh M ∧ (iv M 181 26).toInt = r.1.1 ∧ (iv M 181 29).toInt = r.1.2.1 ∧ (iv M 181 30).toInt = (r.1.2.2.1 : Int) ∧ (iv M 181 31).toInt = (r.1.2.2.2 : Int) ∧ (r.1.2.2.1 ≤ 180 ∧ r.1.2.2.2 ≤ 180) ∧ (∀ k, k < 180 → (iv M 203 k).toInt = r.2.1 k) ∧ ∀ k, k < 180 → (iv M 204 k).toInt = r.2.2 k
/-- what the reference's reading leaves as it is -/
def RX (M M' : Mem) : Prop := ∀ c i, (c = 181 → i ≠ 26 ∧ i ≠ 28 ∧ i ≠ 29 ∧ i ≠ 30 ∧ i ≠ 31 ∧ i ≠ 33) → c ≠ 203 → c ≠ 204 → mSlot M' c i = mSlot M c i
theorem RX.rf {M : Mem} : RX M M := fun _ _ _ _ _ => rfl
theorem RX.tr {A B C : Mem} (h1 : RX A B) (h2 : RX B C) : RX A C := fun c i a b e => (h2 c i a b e).trans (h1 c i a b e)
theorem RX.put {M : Mem} {a i : Nat} {v : Value} (h : (a = 181 ∧ (i = 26 ∨ i = 28 ∨ i = 29 ∨ i = 30 ∨ i = 31 ∨ i = 33)) ∨ a = 203 ∨ a = 204) : RX M (mPut M a i v) := fun c j h1 h2 h3 => mSlot_put_ne (by
  by_cases e : c = a
  · refine Or.inr (fun e2 => ?_)
    subst e
    subst e2
    rcases h with ⟨h, q⟩ | h | h
    · have := h1 h
      omega
    · exact h2 h
    · exact h3 h
  · exact Or.inl e)
/-- the text, as the reference has it -/
def RT (M : Mem) (t : Int → Int) (n : Int) : Prop := (iv M 181 27).toInt = n ∧ n ≤ 160 ∧ (∀ k : Nat, (k : Int) < n → ((iv M 202 k) &&& (255 : Int32)).toInt = t k ∧ 0 ≤ t k) ∧ ∀ k : Int, n ≤ k → t k = -1
theorem RT.x {M M' : Mem} {t : Int → Int} {n : Int} (h : RT M t n) (x : RX M M') : RT M' t n :=
  ⟨by rw [iv_sl (x 181 27 (by decide) (by decide) (by decide))]; exact h.1, h.2.1, fun k hk => by rw [iv_sl (x 202 k (fun q => absurd q (by decide)) (by decide) (by decide))]; exact h.2.2.1 k hk, h.2.2.2⟩
theorem RT.tl {M : Mem} {t : Int → Int} {n : Int} (h : RT M t n) : TL t n := fun p hp => by
  apply Classical.byContradiction
  intro q
  exact hp (h.2.2.2 p (by omega))
theorem RT.rg {M : Mem} {t : Int → Int} {n : Int} (h : RT M t n) {p : Int} (hp : 0 ≤ p) : -1 ≤ t p ∧ t p ≤ 255 := by
  by_cases q : p < n
  · have e := h.2.2.1 p.toNat (by omega)
    rw [show ((p.toNat : Nat) : Int) = p by omega] at e
    have r := i32_and_r (x := iv M 202 p.toNat) (y := (255 : Int32)) (by decide)
    have r2 : ((iv M 202 p.toNat) &&& (255 : Int32)).toInt ≤ 255 := r.2
    omega
  · rw [h.2.2.2 p (by omega)]
    decide
/-- a fault, as the reference tells it -/
def RB (t : Int → Int) (c : CF) (M' : Mem) : Prop := Sh M' ∧ ∃ c', Rch t c c' ∧ c'.1 = 8 ∧ c'.2.2.1 = (iv M' 181 28).toInt
theorem RB.pre {t : Int → Int} {c c' : CF} {M : Mem} (h : Rch t c c') (hb : RB t c' M) : RB t c M := by
  obtain ⟨s, x, h1, h2⟩ := hb
  exact ⟨s, x, h.tr h1, h2⟩
section
variable {M : Mem} {r : PS} {v : Int32}
theorem RR.ivp (_h : RR M r) {a i : Nat} {w : Value} {c j : Nat} (hn : c ≠ a ∨ j ≠ i) : iv (mPut M a i w) c j = iv M c j := iv_put_ne hn
theorem RR.p26 {p : Int} (h : RR M r) (hv : v.toInt = p) : RR (mPut M 181 26 (.int v)) ((p, r.1.2), r.2) :=
  ⟨h.1.put (by decide) (by decide) rfl, by rw [iv_put_eq h.1 (by decide) (by decide) (by decide)]; exact hv, by rw [iv_put_ne (Or.inr (by decide))]; exact h.2.2.1, by rw [iv_put_ne (Or.inr (by decide))]; exact h.2.2.2.1, by rw [iv_put_ne (Or.inr (by decide))]; exact h.2.2.2.2.1, ⟨h.2.2.2.2.2.1.1, h.2.2.2.2.2.1.2⟩, fun k hk => by rw [iv_put_ne (Or.inl (by decide))]; exact h.2.2.2.2.2.2.1 k hk, fun k hk => by rw [iv_put_ne (Or.inl (by decide))]; exact h.2.2.2.2.2.2.2 k hk⟩
theorem RR.p29 {o : Int} (h : RR M r) (hv : v.toInt = o) : RR (mPut M 181 29 (.int v)) ((r.1.1, o, r.1.2.2), r.2) :=
  ⟨h.1.put (by decide) (by decide) rfl, by rw [iv_put_ne (Or.inr (by decide))]; exact h.2.1, by rw [iv_put_eq h.1 (by decide) (by decide) (by decide)]; exact hv, by rw [iv_put_ne (Or.inr (by decide))]; exact h.2.2.2.1, by rw [iv_put_ne (Or.inr (by decide))]; exact h.2.2.2.2.1, ⟨h.2.2.2.2.2.1.1, h.2.2.2.2.2.1.2⟩, fun k hk => by rw [iv_put_ne (Or.inl (by decide))]; exact h.2.2.2.2.2.2.1 k hk, fun k hk => by rw [iv_put_ne (Or.inl (by decide))]; exact h.2.2.2.2.2.2.2 k hk⟩
theorem RR.p30 {c : Nat} (h : RR M r) (hv : v.toInt = (c : Int)) (hc : c ≤ 180) : RR (mPut M 181 30 (.int v)) ((r.1.1, r.1.2.1, c, r.1.2.2.2), r.2) :=
  ⟨h.1.put (by decide) (by decide) rfl, by rw [iv_put_ne (Or.inr (by decide))]; exact h.2.1, by rw [iv_put_ne (Or.inr (by decide))]; exact h.2.2.1, by rw [iv_put_eq h.1 (by decide) (by decide) (by decide)]; exact hv, by rw [iv_put_ne (Or.inr (by decide))]; exact h.2.2.2.2.1, ⟨hc, h.2.2.2.2.2.1.2⟩, fun k hk => by rw [iv_put_ne (Or.inl (by decide))]; exact h.2.2.2.2.2.2.1 k hk, fun k hk => by rw [iv_put_ne (Or.inl (by decide))]; exact h.2.2.2.2.2.2.2 k hk⟩
theorem RR.p31 {w : Nat} (h : RR M r) (hv : v.toInt = (w : Int)) (hc : w ≤ 180) : RR (mPut M 181 31 (.int v)) ((r.1.1, r.1.2.1, r.1.2.2.1, w), r.2) :=
  ⟨h.1.put (by decide) (by decide) rfl, by rw [iv_put_ne (Or.inr (by decide))]; exact h.2.1, by rw [iv_put_ne (Or.inr (by decide))]; exact h.2.2.1, by rw [iv_put_ne (Or.inr (by decide))]; exact h.2.2.2.1, by rw [iv_put_eq h.1 (by decide) (by decide) (by decide)]; exact hv, ⟨h.2.2.2.2.2.1.1, hc⟩, fun k hk => by rw [iv_put_ne (Or.inl (by decide))]; exact h.2.2.2.2.2.2.1 k hk, fun k hk => by rw [iv_put_ne (Or.inl (by decide))]; exact h.2.2.2.2.2.2.2 k hk⟩
theorem RR.p203 {j : Nat} {x : Int} (h : RR M r) (hv : v.toInt = x) : RR (mPut M 203 j (.int v)) (r.1, pUp r.2.1 j x, r.2.2) :=
  ⟨h.1.put (by decide) (by decide) rfl, by rw [iv_put_ne (Or.inl (by decide))]; exact h.2.1, by rw [iv_put_ne (Or.inl (by decide))]; exact h.2.2.1, by rw [iv_put_ne (Or.inl (by decide))]; exact h.2.2.2.1, by rw [iv_put_ne (Or.inl (by decide))]; exact h.2.2.2.2.1, h.2.2.2.2.2.1, fun k hk => by
    show (iv (mPut M 203 j (.int v)) 203 k).toInt = pUp r.2.1 j x k
    by_cases e : k = j
    · subst e
      rw [iv_put_eq h.1 (by decide) (by decide) (by show _ < 180; exact hk), pUp_at]
      exact hv
    · rw [iv_put_ne (Or.inr e), pUp_ne e]
      exact h.2.2.2.2.2.2.1 k hk, fun k hk => by rw [iv_put_ne (Or.inl (by decide))]; exact h.2.2.2.2.2.2.2 k hk⟩
theorem RR.p204 {j : Nat} {x : Int} (h : RR M r) (hv : v.toInt = x) : RR (mPut M 204 j (.int v)) (r.1, r.2.1, pUp r.2.2 j x) :=
  ⟨h.1.put (by decide) (by decide) rfl, by rw [iv_put_ne (Or.inl (by decide))]; exact h.2.1, by rw [iv_put_ne (Or.inl (by decide))]; exact h.2.2.1, by rw [iv_put_ne (Or.inl (by decide))]; exact h.2.2.2.1, by rw [iv_put_ne (Or.inl (by decide))]; exact h.2.2.2.2.1, h.2.2.2.2.2.1, fun k hk => by rw [iv_put_ne (Or.inl (by decide))]; exact h.2.2.2.2.2.2.1 k hk, fun k hk => by
    show (iv (mPut M 204 j (.int v)) 204 k).toInt = pUp r.2.2 j x k
    by_cases e : k = j
    · subst e
      rw [iv_put_eq h.1 (by decide) (by decide) (by show _ < 180; exact hk), pUp_at]
      exact hv
    · rw [iv_put_ne (Or.inr e), pUp_ne e]
      exact h.2.2.2.2.2.2.2 k hk⟩
theorem RR.pot {i : Nat} (h : RR M r) (hi : i = 28 ∨ i = 33) : RR (mPut M 181 i (.int v)) r := by
  have hS : Sh (mPut M 181 i (.int v)) := by rcases hi with rfl | rfl <;> exact h.1.put (by decide) (by decide) rfl
  exact ⟨hS, by rw [iv_put_ne (Or.inr (by omega))]; exact h.2.1, by rw [iv_put_ne (Or.inr (by omega))]; exact h.2.2.1, by rw [iv_put_ne (Or.inr (by omega))]; exact h.2.2.2.1, by rw [iv_put_ne (Or.inr (by omega))]; exact h.2.2.2.2.1, h.2.2.2.2.2.1, fun k hk => by rw [iv_put_ne (Or.inl (by decide))]; exact h.2.2.2.2.2.2.1 k hk, fun k hk => by rw [iv_put_ne (Or.inl (by decide))]; exact h.2.2.2.2.2.2.2 k hk⟩
end
/-- WidowDeedsModel.here -/
def hereV (M : Mem) : Int32 := (bif decide ((iv M 181 26).toInt < (iv M 181 27).toInt) then ((iv M 202 (iv M 181 26).toInt.toNat) &&& (255 : Int32)) else ((-1) : Int32))
theorem hereV_en  {n d : Nat} {M : Mem} {r : Option Value} {M1 : Mem} (hS : Sh M) (h : En n d 192 0 (lv_args 0 [.ref 181]) [] M r M1) : r = some (.int (hereV M)) ∧ M1 = M := by
  replace h := eAload (mi := 192) (pc := 0) (len := 1) (i := 0) rfl rfl h
  replace h := eGetI (a := 181) (j := 1126) hS (by decide) (by decide) rfl (mi := 192) (pc := 1) (len := 3) rfl h
  replace h := eAload (mi := 192) (pc := 4) (len := 1) (i := 0) rfl rfl h
  replace h := eGetI (a := 181) (j := 1127) hS (by decide) (by decide) rfl (mi := 192) (pc := 5) (len := 3) rfl h
  rcases eIc (mi := 192) (pc := 8) (len := 3) (t := 27) rfl rfl h with ⟨c1, h⟩ | ⟨c1, h⟩
  · replace c1 : ¬ (iv M 181 26).toInt < (iv M 181 27).toInt := mC_ge.1 c1
    replace h := eConst (mi := 192) (pc := 27) (len := 1) (v := (-1)) rfl h
    obtain ⟨e1, e2⟩ := eRetI (mi := 192) (pc := 28) (len := 1) rfl h
    have e3 : hereV M = ((-1) : Int32) := by
      unfold hereV
      simp only [decide_eq_false c1, cond_true, cond_false]
    rw [e3]
    exact ⟨e1, e2⟩
  · replace c1 : (iv M 181 26).toInt < (iv M 181 27).toInt := mC_ge.2 c1
    replace h := eAload (mi := 192) (pc := 11) (len := 1) (i := 0) rfl rfl h
    replace h := eGetR (a := 181) (j := 1124) (g := 202) hS (by decide) (by decide) rfl rfl rfl (mi := 192) (pc := 12) (len := 3) rfl h
    replace h := eAload (mi := 192) (pc := 15) (len := 1) (i := 0) rfl rfl h
    replace h := eGetI (a := 181) (j := 1126) hS (by decide) (by decide) rfl (mi := 192) (pc := 16) (len := 3) rfl h
    obtain ⟨b2, h⟩ := eBald (x := (iv M 181 26)) hS (a := 202) (by decide) (by decide) rfl (mi := 192) (pc := 19) (len := 1) rfl h
    replace h := eConst (mi := 192) (pc := 20) (len := 3) (v := 255) rfl h
    replace h := eAnd (mi := 192) (pc := 23) (len := 1) rfl h
    replace h := eGoto (mi := 192) (pc := 24) (len := 3) (t := 28) rfl rfl h
    obtain ⟨e1, e2⟩ := eRetI (mi := 192) (pc := 28) (len := 1) rfl h
    have e3 : hereV M = ((iv M 202 (iv M 181 26).toInt.toNat) &&& (255 : Int32)) := by
      unfold hereV
      simp only [decide_eq_true c1, cond_true, cond_false]
    rw [e3]
    exact ⟨e1, e2⟩
theorem here_t {M : Mem} {t : Int → Int} {n : Int} {P : PS} (hR : RR M P) (hT : RT M t n) (h0 : 0 ≤ P.1.1) : (hereV M).toInt = t P.1.1 := by
  unfold hereV
  rw [hR.2.1, hT.1]
  by_cases q : P.1.1 < n
  · rw [decide_eq_true q, cond_true]
    have e := (hT.2.2.1 P.1.1.toNat (by omega)).1
    rw [show ((P.1.1.toNat : Nat) : Int) = P.1.1 by omega] at e
    exact e
  · rw [decide_eq_false q, cond_false, hT.2.2.2 _ (by omega)]
    rfl
/-- WidowDeedsModel.isDigit -/
def digV (M : Mem) : Bool := (bif decide ((hereV M).toInt < 48) then false else (bif decide (57 < (hereV M).toInt) then false else true))
theorem digV_en  {n d : Nat} {M : Mem} {r : Option Value} {M1 : Mem} (hS : Sh M) (h : En n d 193 0 (lv_args 0 [.ref 181]) [] M r M1) : r = some (.int (b2 (digV M))) ∧ M1 = M := by
  replace h := eAload (mi := 193) (pc := 0) (len := 1) (i := 0) rfl rfl h
  replace h := eCallP (mi := 193) (pc := 1) (len := 3) (j := 192) (as := [.ref 181]) (rest := []) rfl (Or.inr (Or.inl rfl)) (by decide) rfl rfl (fun _ _ _ _ g => hereV_en hS g) h
  replace h := eConst (mi := 193) (pc := 4) (len := 2) (v := 48) rfl h
  rcases eIc (mi := 193) (pc := 6) (len := 3) (t := 22) rfl rfl h with ⟨c1, h⟩ | ⟨c1, h⟩
  · replace c1 : (hereV M).toInt < 48 := mC_lt.1 c1
    replace h := eConst (mi := 193) (pc := 22) (len := 1) (v := 0) rfl h
    obtain ⟨e1, e2⟩ := eRetI (mi := 193) (pc := 23) (len := 1) rfl h
    have e3 : digV M = false := by
      unfold digV
      simp only [decide_eq_true c1, cond_true, cond_false]
    rw [e3]
    exact ⟨e1, e2⟩
  · replace c1 : ¬ (hereV M).toInt < 48 := mC_lt.2 c1
    replace h := eAload (mi := 193) (pc := 9) (len := 1) (i := 0) rfl rfl h
    replace h := eCallP (mi := 193) (pc := 10) (len := 3) (j := 192) (as := [.ref 181]) (rest := []) rfl (Or.inr (Or.inl rfl)) (by decide) rfl rfl (fun _ _ _ _ g => hereV_en hS g) h
    replace h := eConst (mi := 193) (pc := 13) (len := 2) (v := 57) rfl h
    rcases eIc (mi := 193) (pc := 15) (len := 3) (t := 22) rfl rfl h with ⟨c2, h⟩ | ⟨c2, h⟩
    · replace c2 : 57 < (hereV M).toInt := mC_gt.1 c2
      replace h := eConst (mi := 193) (pc := 22) (len := 1) (v := 0) rfl h
      obtain ⟨e1, e2⟩ := eRetI (mi := 193) (pc := 23) (len := 1) rfl h
      have e3 : digV M = false := by
        unfold digV
        simp only [decide_eq_false c1, decide_eq_true c2, cond_true, cond_false]
      rw [e3]
      exact ⟨e1, e2⟩
    · replace c2 : ¬ 57 < (hereV M).toInt := mC_gt.2 c2
      replace h := eConst (mi := 193) (pc := 18) (len := 1) (v := 1) rfl h
      replace h := eGoto (mi := 193) (pc := 19) (len := 3) (t := 23) rfl rfl h
      obtain ⟨e1, e2⟩ := eRetI (mi := 193) (pc := 23) (len := 1) rfl h
      have e3 : digV M = true := by
        unfold digV
        simp only [decide_eq_false c1, decide_eq_false c2, cond_true, cond_false]
      rw [e3]
      exact ⟨e1, e2⟩
theorem digV_c {M : Mem} : digV M = cDig (hereV M).toInt := by
  unfold digV
  by_cases h1 : (hereV M).toInt < 48
  · rw [decide_eq_true h1, cDig_f (by omega)]
    rfl
  · rw [decide_eq_false h1]
    by_cases h2 : 57 < (hereV M).toInt
    · rw [decide_eq_true h2, cDig_f (by omega)]
      rfl
    · rw [decide_eq_false h2]
      unfold cDig
      rw [decide_eq_true (show 48 ≤ (hereV M).toInt by omega), decide_eq_true (show (hereV M).toInt ≤ 57 by omega)]
      rfl
/-- WidowDeedsModel.top -/
def topV (M : Mem) : Int32 := (bif decide ((iv M 181 31).toInt = 0) then ((-1) : Int32) else ((iv M 204 ((iv M 181 31) - (1 : Int32)).toInt.toNat) / (1048576 : Int32)))
theorem topV_en  {n d : Nat} {M : Mem} {r : Option Value} {M1 : Mem} (hS : Sh M) (h : En n d 199 0 (lv_args 0 [.ref 181]) [] M r M1) : r = some (.int (topV M)) ∧ M1 = M := by
  replace h := eAload (mi := 199) (pc := 0) (len := 1) (i := 0) rfl rfl h
  replace h := eGetI (a := 181) (j := 1131) hS (by decide) (by decide) rfl (mi := 199) (pc := 1) (len := 3) rfl h
  rcases eIf (mi := 199) (pc := 4) (len := 3) (t := 11) rfl rfl h with ⟨c1, h⟩ | ⟨c1, h⟩
  · replace c1 : ¬ (iv M 181 31).toInt = 0 := mC_ne.1 c1
    replace h := eAload (mi := 199) (pc := 11) (len := 1) (i := 0) rfl rfl h
    replace h := eGetR (a := 181) (j := 1135) (g := 204) hS (by decide) (by decide) rfl rfl rfl (mi := 199) (pc := 12) (len := 3) rfl h
    replace h := eAload (mi := 199) (pc := 15) (len := 1) (i := 0) rfl rfl h
    replace h := eGetI (a := 181) (j := 1131) hS (by decide) (by decide) rfl (mi := 199) (pc := 16) (len := 3) rfl h
    replace h := eConst (mi := 199) (pc := 19) (len := 1) (v := 1) rfl h
    replace h := eSub (mi := 199) (pc := 20) (len := 1) rfl h
    obtain ⟨b2, h⟩ := eIald (x := ((iv M 181 31) - (1 : Int32))) hS (a := 204) (by decide) (by decide) rfl (mi := 199) (pc := 21) (len := 1) rfl h
    replace h := eConst (mi := 199) (pc := 22) (len := 3) (v := 1048576) rfl h
    replace h := eDiv (mi := 199) (pc := 25) (len := 1) rfl (by decide) h
    obtain ⟨e1, e2⟩ := eRetI (mi := 199) (pc := 26) (len := 1) rfl h
    have e3 : topV M = ((iv M 204 ((iv M 181 31) - (1 : Int32)).toInt.toNat) / (1048576 : Int32)) := by
      unfold topV
      simp only [decide_eq_false c1, cond_true, cond_false]
    rw [e3]
    exact ⟨e1, e2⟩
  · replace c1 : (iv M 181 31).toInt = 0 := mC_ne.2 c1
    replace h := eConst (mi := 199) (pc := 7) (len := 1) (v := (-1)) rfl h
    replace h := eGoto (mi := 199) (pc := 8) (len := 3) (t := 26) rfl rfl h
    obtain ⟨e1, e2⟩ := eRetI (mi := 199) (pc := 26) (len := 1) rfl h
    have e3 : topV M = ((-1) : Int32) := by
      unfold topV
      simp only [decide_eq_true c1, cond_true, cond_false]
    rw [e3]
    exact ⟨e1, e2⟩
theorem top_t {M : Mem} {P : PS} (hR : RR M P) (hW : WS P) : (topV M).toInt = pTop P := by
  unfold topV pTop
  have e := hR.2.2.2.2.1
  by_cases q : P.1.2.2.2 = 0
  · rw [if_pos q, decide_eq_true (show (iv M 181 31).toInt = 0 by omega), cond_true]
    rfl
  · rw [if_neg q, decide_eq_false (show ¬ (iv M 181 31).toInt = 0 by omega), cond_false]
    have b := hR.2.2.2.2.2.1.2
    have e2 := dc1 e (by omega) (by omega)
    have e3 : (iv M 181 31 - (1 : Int32)).toInt.toNat = P.1.2.2.2 - 1 := by omega
    rw [e3]
    have e4 := hR.2.2.2.2.2.2.2 (P.1.2.2.2 - 1) (by omega)
    have r := hW.1 (P.1.2.2.2 - 1) (by omega)
    rw [i32_div (by omega) (by decide), e4]
    rfl
/-- WidowDeedsModel.sumSign -/
def sgnV (x : Int32) : Int32 := (bif decide (x.toInt = 43) then (2 : Int32) else (bif decide (x.toInt = 45) then (3 : Int32) else (bif decide (x.toInt = 42) then (4 : Int32) else (bif decide (x.toInt = 47) then (5 : Int32) else (bif decide (x.toInt = 37) then (6 : Int32) else ((-1) : Int32))))))
theorem sgnV_en {x : Int32} {n d : Nat} {M : Mem} {r : Option Value} {M1 : Mem} (hS : Sh M) (h : En n d 201 0 (lv_args 0 [.int x]) [] M r M1) : r = some (.int (sgnV x)) ∧ M1 = M := by
  replace h := eIload (mi := 201) (pc := 0) (len := 1) (i := 0) rfl rfl h
  replace h := eConst (mi := 201) (pc := 1) (len := 2) (v := 43) rfl h
  rcases eIc (mi := 201) (pc := 3) (len := 3) (t := 10) rfl rfl h with ⟨c1, h⟩ | ⟨c1, h⟩
  · replace c1 : ¬ x.toInt = 43 := mC_ne.1 c1
    replace h := eIload (mi := 201) (pc := 10) (len := 1) (i := 0) rfl rfl h
    replace h := eConst (mi := 201) (pc := 11) (len := 2) (v := 45) rfl h
    rcases eIc (mi := 201) (pc := 13) (len := 3) (t := 20) rfl rfl h with ⟨c2, h⟩ | ⟨c2, h⟩
    · replace c2 : ¬ x.toInt = 45 := mC_ne.1 c2
      replace h := eIload (mi := 201) (pc := 20) (len := 1) (i := 0) rfl rfl h
      replace h := eConst (mi := 201) (pc := 21) (len := 2) (v := 42) rfl h
      rcases eIc (mi := 201) (pc := 23) (len := 3) (t := 30) rfl rfl h with ⟨c3, h⟩ | ⟨c3, h⟩
      · replace c3 : ¬ x.toInt = 42 := mC_ne.1 c3
        replace h := eIload (mi := 201) (pc := 30) (len := 1) (i := 0) rfl rfl h
        replace h := eConst (mi := 201) (pc := 31) (len := 2) (v := 47) rfl h
        rcases eIc (mi := 201) (pc := 33) (len := 3) (t := 40) rfl rfl h with ⟨c4, h⟩ | ⟨c4, h⟩
        · replace c4 : ¬ x.toInt = 47 := mC_ne.1 c4
          replace h := eIload (mi := 201) (pc := 40) (len := 1) (i := 0) rfl rfl h
          replace h := eConst (mi := 201) (pc := 41) (len := 2) (v := 37) rfl h
          rcases eIc (mi := 201) (pc := 43) (len := 3) (t := 51) rfl rfl h with ⟨c5, h⟩ | ⟨c5, h⟩
          · replace c5 : ¬ x.toInt = 37 := mC_ne.1 c5
            replace h := eConst (mi := 201) (pc := 51) (len := 1) (v := (-1)) rfl h
            obtain ⟨e1, e2⟩ := eRetI (mi := 201) (pc := 52) (len := 1) rfl h
            have e3 : sgnV x = ((-1) : Int32) := by
              unfold sgnV
              simp only [decide_eq_false c1, decide_eq_false c2, decide_eq_false c3, decide_eq_false c4, decide_eq_false c5, cond_true, cond_false]
            rw [e3]
            exact ⟨e1, e2⟩
          · replace c5 : x.toInt = 37 := mC_ne.2 c5
            replace h := eConst (mi := 201) (pc := 46) (len := 2) (v := 6) rfl h
            replace h := eGoto (mi := 201) (pc := 48) (len := 3) (t := 52) rfl rfl h
            obtain ⟨e1, e2⟩ := eRetI (mi := 201) (pc := 52) (len := 1) rfl h
            have e3 : sgnV x = (6 : Int32) := by
              unfold sgnV
              simp only [decide_eq_false c1, decide_eq_false c2, decide_eq_false c3, decide_eq_false c4, decide_eq_true c5, cond_true, cond_false]
            rw [e3]
            exact ⟨e1, e2⟩
        · replace c4 : x.toInt = 47 := mC_ne.2 c4
          replace h := eConst (mi := 201) (pc := 36) (len := 1) (v := 5) rfl h
          replace h := eGoto (mi := 201) (pc := 37) (len := 3) (t := 52) rfl rfl h
          obtain ⟨e1, e2⟩ := eRetI (mi := 201) (pc := 52) (len := 1) rfl h
          have e3 : sgnV x = (5 : Int32) := by
            unfold sgnV
            simp only [decide_eq_false c1, decide_eq_false c2, decide_eq_false c3, decide_eq_true c4, cond_true, cond_false]
          rw [e3]
          exact ⟨e1, e2⟩
      · replace c3 : x.toInt = 42 := mC_ne.2 c3
        replace h := eConst (mi := 201) (pc := 26) (len := 1) (v := 4) rfl h
        replace h := eGoto (mi := 201) (pc := 27) (len := 3) (t := 52) rfl rfl h
        obtain ⟨e1, e2⟩ := eRetI (mi := 201) (pc := 52) (len := 1) rfl h
        have e3 : sgnV x = (4 : Int32) := by
          unfold sgnV
          simp only [decide_eq_false c1, decide_eq_false c2, decide_eq_true c3, cond_true, cond_false]
        rw [e3]
        exact ⟨e1, e2⟩
    · replace c2 : x.toInt = 45 := mC_ne.2 c2
      replace h := eConst (mi := 201) (pc := 16) (len := 1) (v := 3) rfl h
      replace h := eGoto (mi := 201) (pc := 17) (len := 3) (t := 52) rfl rfl h
      obtain ⟨e1, e2⟩ := eRetI (mi := 201) (pc := 52) (len := 1) rfl h
      have e3 : sgnV x = (3 : Int32) := by
        unfold sgnV
        simp only [decide_eq_false c1, decide_eq_true c2, cond_true, cond_false]
      rw [e3]
      exact ⟨e1, e2⟩
  · replace c1 : x.toInt = 43 := mC_ne.2 c1
    replace h := eConst (mi := 201) (pc := 6) (len := 1) (v := 2) rfl h
    replace h := eGoto (mi := 201) (pc := 7) (len := 3) (t := 52) rfl rfl h
    obtain ⟨e1, e2⟩ := eRetI (mi := 201) (pc := 52) (len := 1) rfl h
    have e3 : sgnV x = (2 : Int32) := by
      unfold sgnV
      simp only [decide_eq_true c1, cond_true, cond_false]
    rw [e3]
    exact ⟨e1, e2⟩
theorem sgnV_t {x : Int32} : (sgnV x).toInt = cSum x.toInt := by
  unfold sgnV cSum
  by_cases c43 : x.toInt = 43
  · rw [decide_eq_true c43, if_pos c43]
    rfl
  rw [decide_eq_false c43, if_neg c43]
  by_cases c45 : x.toInt = 45
  · rw [decide_eq_true c45, if_pos c45]
    rfl
  rw [decide_eq_false c45, if_neg c45]
  by_cases c42 : x.toInt = 42
  · rw [decide_eq_true c42, if_pos c42]
    rfl
  rw [decide_eq_false c42, if_neg c42]
  by_cases c47 : x.toInt = 47
  · rw [decide_eq_true c47, if_pos c47]
    rfl
  rw [decide_eq_false c47, if_neg c47]
  by_cases c37 : x.toInt = 37
  · rw [decide_eq_true c37, if_pos c37]
    rfl
  rw [decide_eq_false c37, if_neg c37]
  rfl
theorem fact_r {x : Int32} {n d : Nat} {M : Mem} {r : Option Value} {M1 : Mem} (h : En n d 200 0 (lv_args 0 [.int x]) [] M r M1) : ∃ y : Int32, r = some (.int y) ∧ y.toInt = cFact x.toInt ∧ M1 = M := by
  replace h := eIload (mi := 200) (pc := 0) (len := 1) (i := 0) rfl rfl h
  by_cases c110 : x.toInt = 110
  · skip
    replace h := eTsw (mi := 200) (pc := 1) (len := 103) (o := 103) (t := 104) rfl (by rw [c110]; decide) rfl h
    replace h := eConst (mi := 200) (pc := 104) (len := 1) (v := 0) rfl h
    obtain ⟨e1, e2⟩ := eRetI (mi := 200) (pc := 105) (len := 1) rfl h
    exact ⟨_, e1, by rw [c110]; rfl, e2⟩
  by_cases c102 : x.toInt = 102
  · skip
    replace h := eTsw (mi := 200) (pc := 1) (len := 103) (o := 105) (t := 106) rfl (by rw [c102]; decide) rfl h
    replace h := eConst (mi := 200) (pc := 106) (len := 1) (v := 1) rfl h
    obtain ⟨e1, e2⟩ := eRetI (mi := 200) (pc := 107) (len := 1) rfl h
    exact ⟨_, e1, by rw [c102]; rfl, e2⟩
  by_cases c99 : x.toInt = 99
  · skip
    replace h := eTsw (mi := 200) (pc := 1) (len := 103) (o := 107) (t := 108) rfl (by rw [c99]; decide) rfl h
    replace h := eConst (mi := 200) (pc := 108) (len := 1) (v := 2) rfl h
    obtain ⟨e1, e2⟩ := eRetI (mi := 200) (pc := 109) (len := 1) rfl h
    exact ⟨_, e1, by rw [c99]; rfl, e2⟩
  by_cases c117 : x.toInt = 117
  · skip
    replace h := eTsw (mi := 200) (pc := 1) (len := 103) (o := 109) (t := 110) rfl (by rw [c117]; decide) rfl h
    replace h := eConst (mi := 200) (pc := 110) (len := 1) (v := 3) rfl h
    obtain ⟨e1, e2⟩ := eRetI (mi := 200) (pc := 111) (len := 1) rfl h
    exact ⟨_, e1, by rw [c117]; rfl, e2⟩
  by_cases c118 : x.toInt = 118
  · skip
    replace h := eTsw (mi := 200) (pc := 1) (len := 103) (o := 111) (t := 112) rfl (by rw [c118]; decide) rfl h
    replace h := eConst (mi := 200) (pc := 112) (len := 1) (v := 4) rfl h
    obtain ⟨e1, e2⟩ := eRetI (mi := 200) (pc := 113) (len := 1) rfl h
    exact ⟨_, e1, by rw [c118]; rfl, e2⟩
  by_cases c112 : x.toInt = 112
  · skip
    replace h := eTsw (mi := 200) (pc := 1) (len := 103) (o := 113) (t := 114) rfl (by rw [c112]; decide) rfl h
    replace h := eConst (mi := 200) (pc := 114) (len := 1) (v := 5) rfl h
    obtain ⟨e1, e2⟩ := eRetI (mi := 200) (pc := 115) (len := 1) rfl h
    exact ⟨_, e1, by rw [c112]; rfl, e2⟩
  by_cases c103 : x.toInt = 103
  · skip
    replace h := eTsw (mi := 200) (pc := 1) (len := 103) (o := 115) (t := 116) rfl (by rw [c103]; decide) rfl h
    replace h := eConst (mi := 200) (pc := 116) (len := 2) (v := 6) rfl h
    obtain ⟨e1, e2⟩ := eRetI (mi := 200) (pc := 118) (len := 1) rfl h
    exact ⟨_, e1, by rw [c103]; rfl, e2⟩
  by_cases c120 : x.toInt = 120
  · skip
    replace h := eTsw (mi := 200) (pc := 1) (len := 103) (o := 118) (t := 119) rfl (by rw [c120]; decide) rfl h
    replace h := eConst (mi := 200) (pc := 119) (len := 2) (v := 7) rfl h
    obtain ⟨e1, e2⟩ := eRetI (mi := 200) (pc := 121) (len := 1) rfl h
    exact ⟨_, e1, by rw [c120]; rfl, e2⟩
  by_cases c107 : x.toInt = 107
  · skip
    replace h := eTsw (mi := 200) (pc := 1) (len := 103) (o := 121) (t := 122) rfl (by rw [c107]; decide) rfl h
    replace h := eConst (mi := 200) (pc := 122) (len := 2) (v := 8) rfl h
    obtain ⟨e1, e2⟩ := eRetI (mi := 200) (pc := 124) (len := 1) rfl h
    exact ⟨_, e1, by rw [c107]; rfl, e2⟩
  by_cases c119 : x.toInt = 119
  · skip
    replace h := eTsw (mi := 200) (pc := 1) (len := 103) (o := 124) (t := 125) rfl (by rw [c119]; decide) rfl h
    replace h := eConst (mi := 200) (pc := 125) (len := 2) (v := 9) rfl h
    obtain ⟨e1, e2⟩ := eRetI (mi := 200) (pc := 127) (len := 1) rfl h
    exact ⟨_, e1, by rw [c119]; rfl, e2⟩
  by_cases c105 : x.toInt = 105
  · skip
    replace h := eTsw (mi := 200) (pc := 1) (len := 103) (o := 127) (t := 128) rfl (by rw [c105]; decide) rfl h
    replace h := eConst (mi := 200) (pc := 128) (len := 2) (v := 10) rfl h
    obtain ⟨e1, e2⟩ := eRetI (mi := 200) (pc := 130) (len := 1) rfl h
    exact ⟨_, e1, by rw [c105]; rfl, e2⟩
  by_cases c113 : x.toInt = 113
  · skip
    replace h := eTsw (mi := 200) (pc := 1) (len := 103) (o := 130) (t := 131) rfl (by rw [c113]; decide) rfl h
    replace h := eConst (mi := 200) (pc := 131) (len := 2) (v := 11) rfl h
    obtain ⟨e1, e2⟩ := eRetI (mi := 200) (pc := 133) (len := 1) rfl h
    exact ⟨_, e1, by rw [c113]; rfl, e2⟩
  by_cases c104 : x.toInt = 104
  · skip
    replace h := eTsw (mi := 200) (pc := 1) (len := 103) (o := 133) (t := 134) rfl (by rw [c104]; decide) rfl h
    replace h := eConst (mi := 200) (pc := 134) (len := 2) (v := 12) rfl h
    obtain ⟨e1, e2⟩ := eRetI (mi := 200) (pc := 136) (len := 1) rfl h
    exact ⟨_, e1, by rw [c104]; rfl, e2⟩
  by_cases c116 : x.toInt = 116
  · skip
    replace h := eTsw (mi := 200) (pc := 1) (len := 103) (o := 136) (t := 137) rfl (by rw [c116]; decide) rfl h
    replace h := eConst (mi := 200) (pc := 137) (len := 2) (v := 13) rfl h
    obtain ⟨e1, e2⟩ := eRetI (mi := 200) (pc := 139) (len := 1) rfl h
    exact ⟨_, e1, by rw [c116]; rfl, e2⟩
  by_cases q : x.toInt < 99 ∨ 120 < x.toInt
  · skip
    replace h := eTsw (mi := 200) (pc := 1) (len := 103) (o := 139) (t := 140) rfl (by rw [if_pos q]) rfl h
    replace h := eConst (mi := 200) (pc := 140) (len := 1) (v := (-1)) rfl h
    obtain ⟨e1, e2⟩ := eRetI (mi := 200) (pc := 141) (len := 1) rfl h
    exact ⟨_, e1, by unfold cFact; rw [if_neg c110, if_neg c102, if_neg c99, if_neg c117, if_neg c118, if_neg c112, if_neg c103, if_neg c120, if_neg c107, if_neg c119, if_neg c105, if_neg c113, if_neg c104, if_neg c116]; rfl, e2⟩
  have q2 : x.toInt = 100 ∨ x.toInt = 101 ∨ x.toInt = 106 ∨ x.toInt = 108 ∨ x.toInt = 109 ∨ x.toInt = 111 ∨ x.toInt = 114 ∨ x.toInt = 115 := by omega
  rcases q2 with q2 | q2 | q2 | q2 | q2 | q2 | q2 | q2
  · skip
    replace h := eTsw (mi := 200) (pc := 1) (len := 103) (o := 139) (t := 140) rfl (by rw [q2]; decide) rfl h
    replace h := eConst (mi := 200) (pc := 140) (len := 1) (v := (-1)) rfl h
    obtain ⟨e1, e2⟩ := eRetI (mi := 200) (pc := 141) (len := 1) rfl h
    exact ⟨_, e1, by unfold cFact; rw [if_neg c110, if_neg c102, if_neg c99, if_neg c117, if_neg c118, if_neg c112, if_neg c103, if_neg c120, if_neg c107, if_neg c119, if_neg c105, if_neg c113, if_neg c104, if_neg c116]; rfl, e2⟩
  · skip
    replace h := eTsw (mi := 200) (pc := 1) (len := 103) (o := 139) (t := 140) rfl (by rw [q2]; decide) rfl h
    replace h := eConst (mi := 200) (pc := 140) (len := 1) (v := (-1)) rfl h
    obtain ⟨e1, e2⟩ := eRetI (mi := 200) (pc := 141) (len := 1) rfl h
    exact ⟨_, e1, by unfold cFact; rw [if_neg c110, if_neg c102, if_neg c99, if_neg c117, if_neg c118, if_neg c112, if_neg c103, if_neg c120, if_neg c107, if_neg c119, if_neg c105, if_neg c113, if_neg c104, if_neg c116]; rfl, e2⟩
  · skip
    replace h := eTsw (mi := 200) (pc := 1) (len := 103) (o := 139) (t := 140) rfl (by rw [q2]; decide) rfl h
    replace h := eConst (mi := 200) (pc := 140) (len := 1) (v := (-1)) rfl h
    obtain ⟨e1, e2⟩ := eRetI (mi := 200) (pc := 141) (len := 1) rfl h
    exact ⟨_, e1, by unfold cFact; rw [if_neg c110, if_neg c102, if_neg c99, if_neg c117, if_neg c118, if_neg c112, if_neg c103, if_neg c120, if_neg c107, if_neg c119, if_neg c105, if_neg c113, if_neg c104, if_neg c116]; rfl, e2⟩
  · skip
    replace h := eTsw (mi := 200) (pc := 1) (len := 103) (o := 139) (t := 140) rfl (by rw [q2]; decide) rfl h
    replace h := eConst (mi := 200) (pc := 140) (len := 1) (v := (-1)) rfl h
    obtain ⟨e1, e2⟩ := eRetI (mi := 200) (pc := 141) (len := 1) rfl h
    exact ⟨_, e1, by unfold cFact; rw [if_neg c110, if_neg c102, if_neg c99, if_neg c117, if_neg c118, if_neg c112, if_neg c103, if_neg c120, if_neg c107, if_neg c119, if_neg c105, if_neg c113, if_neg c104, if_neg c116]; rfl, e2⟩
  · skip
    replace h := eTsw (mi := 200) (pc := 1) (len := 103) (o := 139) (t := 140) rfl (by rw [q2]; decide) rfl h
    replace h := eConst (mi := 200) (pc := 140) (len := 1) (v := (-1)) rfl h
    obtain ⟨e1, e2⟩ := eRetI (mi := 200) (pc := 141) (len := 1) rfl h
    exact ⟨_, e1, by unfold cFact; rw [if_neg c110, if_neg c102, if_neg c99, if_neg c117, if_neg c118, if_neg c112, if_neg c103, if_neg c120, if_neg c107, if_neg c119, if_neg c105, if_neg c113, if_neg c104, if_neg c116]; rfl, e2⟩
  · skip
    replace h := eTsw (mi := 200) (pc := 1) (len := 103) (o := 139) (t := 140) rfl (by rw [q2]; decide) rfl h
    replace h := eConst (mi := 200) (pc := 140) (len := 1) (v := (-1)) rfl h
    obtain ⟨e1, e2⟩ := eRetI (mi := 200) (pc := 141) (len := 1) rfl h
    exact ⟨_, e1, by unfold cFact; rw [if_neg c110, if_neg c102, if_neg c99, if_neg c117, if_neg c118, if_neg c112, if_neg c103, if_neg c120, if_neg c107, if_neg c119, if_neg c105, if_neg c113, if_neg c104, if_neg c116]; rfl, e2⟩
  · skip
    replace h := eTsw (mi := 200) (pc := 1) (len := 103) (o := 139) (t := 140) rfl (by rw [q2]; decide) rfl h
    replace h := eConst (mi := 200) (pc := 140) (len := 1) (v := (-1)) rfl h
    obtain ⟨e1, e2⟩ := eRetI (mi := 200) (pc := 141) (len := 1) rfl h
    exact ⟨_, e1, by unfold cFact; rw [if_neg c110, if_neg c102, if_neg c99, if_neg c117, if_neg c118, if_neg c112, if_neg c103, if_neg c120, if_neg c107, if_neg c119, if_neg c105, if_neg c113, if_neg c104, if_neg c116]; rfl, e2⟩
  · skip
    replace h := eTsw (mi := 200) (pc := 1) (len := 103) (o := 139) (t := 140) rfl (by rw [q2]; decide) rfl h
    replace h := eConst (mi := 200) (pc := 140) (len := 1) (v := (-1)) rfl h
    obtain ⟨e1, e2⟩ := eRetI (mi := 200) (pc := 141) (len := 1) rfl h
    exact ⟨_, e1, by unfold cFact; rw [if_neg c110, if_neg c102, if_neg c99, if_neg c117, if_neg c118, if_neg c112, if_neg c103, if_neg c120, if_neg c107, if_neg c119, if_neg c105, if_neg c113, if_neg c104, if_neg c116]; rfl, e2⟩
theorem wr_en {k w : Int32} {n d : Nat} {M : Mem} {r : Option Value} {M1 : Mem} (hS : Sh M) (h : En n d 194 0 (lv_args 0 [.ref 181, .int k, .int w]) [] M r M1) : r = some (.int 0) ∧ M1 = mPut M 181 28 (.int ((-1000) * k - w)) := by
  replace h := eAload (mi := 194) (pc := 0) (len := 1) (i := 0) rfl rfl h
  replace h := eConst (mi := 194) (pc := 1) (len := 3) (v := (-1000)) rfl h
  replace h := eIload (mi := 194) (pc := 4) (len := 1) (i := 1) rfl rfl h
  replace h := eMul (mi := 194) (pc := 5) (len := 1) rfl h
  replace h := eIload (mi := 194) (pc := 6) (len := 1) (i := 2) rfl rfl h
  replace h := eSub (mi := 194) (pc := 7) (len := 1) rfl h
  obtain ⟨N1, eN1⟩ : ∃ X_, X_ = mPut M 181 28 (.int ((((-1000) : Int32) * k) - w)) := ⟨_, rfl⟩
  replace h := ePutE (a := 181) (f := 28) (N := N1) rfl eN1 (mi := 194) (pc := 8) (len := 3) (j := 1128) rfl h
  have hS2 : Sh N1 := by rw [eN1]; exact hS.put (by decide) (by decide) rfl
  replace h := eConst (mi := 194) (pc := 11) (len := 1) (v := 0) rfl h
  obtain ⟨e1, e2⟩ := eRetI (mi := 194) (pc := 12) (len := 1) rfl h
  rw [e2, eN1]
  exact ⟨e1, rfl⟩
theorem wr_fin {k : Int32} {M M1 : Mem} {t : Int → Int} {c : CF} {P : PS} (hR : RR M P) (p0 : 0 ≤ P.1.1) (p1 : P.1.1 ≤ 160) (k0 : 0 ≤ k.toInt) (k1 : k.toInt ≤ 5) (hr : Rch t c (cBad k.toInt P)) (e2 : M1 = mPut M 181 28 (.int ((-1000) * k - iv M 181 26))) : RX M M1 ∧ RB t c M1 ∧ RR M1 P := by
  refine ⟨by rw [e2]; exact RX.put (by decide), ⟨by rw [e2]; exact (hR.pot (Or.inl rfl)).1, _, hr, rfl, ?_⟩, by rw [e2]; exact hR.pot (Or.inl rfl)⟩
  rw [e2, iv_put_eq hR.1 (by decide) (by decide) (by decide)]
  show -1000 * k.toInt - P.1.1 = _
  have q : ((-1000 : Int32) * k).toInt = -1000 * k.toInt := i32_mul (x := -1000) (by show -2147483648 ≤ -1000 * k.toInt; omega) (by show -1000 * k.toInt ≤ 2147483647; omega)
  rw [i32_sub (by rw [q, hR.2.1]; omega) (by rw [q, hR.2.1]; omega), q, hR.2.1]
theorem wr_ok {k : Int32} {n d : Nat} {M : Mem} {r : Option Value} {M1 : Mem} {t : Int → Int} {c : CF} {P : PS} (hR : RR M P) (p0 : 0 ≤ P.1.1) (p1 : P.1.1 ≤ 160) (k0 : 0 ≤ k.toInt) (k1 : k.toInt ≤ 5) (hr : Rch t c (cBad k.toInt P)) (h : En n d 194 0 (lv_args 0 [.ref 181, .int k, .int (iv M 181 26)]) [] M r M1) : r = some (.int 0) ∧ RX M M1 ∧ RB t c M1 ∧ RR M1 P := by
  obtain ⟨e1, e2⟩ := wr_en hR.1 h
  exact ⟨e1, wr_fin hR p0 p1 k0 k1 hr e2⟩
theorem note_v {op v : Int32} (o0 : 0 ≤ op.toInt) (o1 : op.toInt ≤ 15) (v0 : 0 ≤ v.toInt) (v1 : v.toInt < 1048576) : ((1048576 : Int32) * op + v).toInt = 1048576 * op.toInt + v.toInt := by
  have q : ((1048576 : Int32) * op).toInt = 1048576 * op.toInt := i32_mul (x := 1048576) (by show -2147483648 ≤ 1048576 * op.toInt; omega) (by show 1048576 * op.toInt ≤ 2147483647; omega)
  rw [i32_add (by rw [q]; omega) (by rw [q]; omega), q]
theorem nte_ok {op v : Int32} {val : Int} {n d : Nat} {M : Mem} {r : Option Value} {M1 : Mem} {P : PS} (hR : RR M P) (o0 : 0 ≤ op.toInt) (o1 : op.toInt ≤ 15) (v0 : 0 ≤ v.toInt) (v1 : v.toInt < 1048576) (hv : 1048576 * op.toInt + v.toInt = val) (h : En n d 197 0 (lv_args 0 [.ref 181, .int op, .int v]) [] M r M1) : r = none ∧ RR M1 (pEm P val) ∧ RX M M1 := by
  replace h := eAload (mi := 197) (pc := 0) (len := 1) (i := 0) rfl rfl h
  replace h := eGetR (a := 181) (j := 1134) (g := 203) hR.1 (by decide) (by decide) rfl rfl rfl (mi := 197) (pc := 1) (len := 3) rfl h
  replace h := eAload (mi := 197) (pc := 4) (len := 1) (i := 0) rfl rfl h
  replace h := eGetI (a := 181) (j := 1130) hR.1 (by decide) (by decide) rfl (mi := 197) (pc := 5) (len := 3) rfl h
  replace h := eConst (mi := 197) (pc := 8) (len := 3) (v := 1048576) rfl h
  replace h := eIload (mi := 197) (pc := 11) (len := 1) (i := 1) rfl rfl h
  replace h := eMul (mi := 197) (pc := 12) (len := 1) rfl h
  replace h := eIload (mi := 197) (pc := 13) (len := 1) (i := 2) rfl rfl h
  replace h := eAdd (mi := 197) (pc := 14) (len := 1) rfl h
  obtain ⟨N2, eN2⟩ : ∃ X_, X_ = mPut M 203 (iv M 181 30).toInt.toNat (.int (((1048576 : Int32) * op) + v)) := ⟨_, rfl⟩
  obtain ⟨b1, h⟩ := eIast (x := (iv M 181 30)) (N := N2) hR.1 (a := 203) (by decide) (by decide) eN2 (mi := 197) (pc := 15) (len := 1) rfl h
  have hS3 : Sh N2 := by rw [eN2]; exact hR.1.put (by decide) (by decide) rfl
  have ec : (iv M 181 30).toInt.toNat = P.1.2.2.1 := by rw [hR.2.2.2.1]; rfl
  have k9 : P.1.2.2.1 < 180 := by have q := b1.2; rw [ec] at q; exact q
  have R4 : RR N2 (P.1, pUp P.2.1 P.1.2.2.1 val, P.2.2) := by rw [eN2, ec]; exact hR.p203 (j := P.1.2.2.1) (by rw [note_v o0 o1 v0 v1]; exact hv)
  have X5 : RX M N2 := RX.rf.tr (by rw [eN2]; exact RX.put (Or.inr (Or.inl rfl)))
  replace h := eAload (mi := 197) (pc := 16) (len := 1) (i := 0) rfl rfl h
  replace h := eAload (mi := 197) (pc := 17) (len := 1) (i := 0) rfl rfl h
  replace h := eGetI (a := 181) (j := 1130) R4.1 (by decide) (by decide) rfl (mi := 197) (pc := 18) (len := 3) rfl h
  replace h := eConst (mi := 197) (pc := 21) (len := 1) (v := 1) rfl h
  replace h := eAdd (mi := 197) (pc := 22) (len := 1) rfl h
  obtain ⟨N6, eN6⟩ : ∃ X_, X_ = mPut N2 181 30 (.int ((iv N2 181 30) + (1 : Int32))) := ⟨_, rfl⟩
  replace h := ePutE (a := 181) (f := 30) (N := N6) rfl eN6 (mi := 197) (pc := 23) (len := 3) (j := 1130) rfl h
  have hS7 : Sh N6 := by rw [eN6]; exact R4.1.put (by decide) (by decide) rfl
  have R8 : RR N6 (pEm P val) := by rw [eN6]; exact R4.p30 (c := P.1.2.2.1 + 1) (by have q := ic1 R4.2.2.2.1 (by show -1000 ≤ (P.1.2.2.1 : Int); omega) (by show (P.1.2.2.1 : Int) ≤ 1000; omega); rw [q]; rfl) (by omega)
  have X9 : RX M N6 := X5.tr (by rw [eN6]; exact RX.put (Or.inl ⟨rfl, by decide⟩))
  obtain ⟨e1, e2⟩ := eRetV (mi := 197) (pc := 26) (len := 1) rfl h
  rw [e2]
  exact ⟨e1, R8, X9⟩
theorem opn_ok {w : Int32} {val : Int} {n d : Nat} {M : Mem} {r : Option Value} {M1 : Mem} {P : PS} (hR : RR M P) (p0 : 0 ≤ P.1.1) (p1 : P.1.1 ≤ 160) (o0 : -1000 ≤ P.1.2.1) (o1 : P.1.2.1 ≤ 6) (w0 : 0 ≤ w.toInt) (w1 : w.toInt ≤ 15) (hw : w.toInt * 1048576 = val) (h : En n d 198 0 (lv_args 0 [.ref 181, .int w]) [] M r M1) : (P.1.2.1 = 6 ∧ r = some (.int 0) ∧ M1 = mPut M 181 28 (.int ((-1000) * (5 : Int32) - iv M 181 26))) ∨ (¬ P.1.2.1 = 6 ∧ r = some (.int 1) ∧ RR M1 (pAdv (pOpn (pPush P val) 1)) ∧ RX M M1) := by
  replace h := eAload (mi := 198) (pc := 0) (len := 1) (i := 0) rfl rfl h
  replace h := eGetI (a := 181) (j := 1129) hR.1 (by decide) (by decide) rfl (mi := 198) (pc := 1) (len := 3) rfl h
  replace h := eConst (mi := 198) (pc := 4) (len := 2) (v := 6) rfl h
  rcases eIc (mi := 198) (pc := 6) (len := 3) (t := 19) rfl rfl h with ⟨c1, h⟩ | ⟨c1, h⟩
  · replace c1 : ¬ (iv M 181 29).toInt = 6 := mC_ne.1 c1
    replace h := eAload (mi := 198) (pc := 19) (len := 1) (i := 0) rfl rfl h
    replace h := eAload (mi := 198) (pc := 20) (len := 1) (i := 0) rfl rfl h
    replace h := eGetI (a := 181) (j := 1129) hR.1 (by decide) (by decide) rfl (mi := 198) (pc := 21) (len := 3) rfl h
    replace h := eConst (mi := 198) (pc := 24) (len := 1) (v := 1) rfl h
    replace h := eAdd (mi := 198) (pc := 25) (len := 1) rfl h
    obtain ⟨N2, eN2⟩ : ∃ X_, X_ = mPut M 181 29 (.int ((iv M 181 29) + (1 : Int32))) := ⟨_, rfl⟩
    replace h := ePutE (a := 181) (f := 29) (N := N2) rfl eN2 (mi := 198) (pc := 26) (len := 3) (j := 1129) rfl h
    have hS3 : Sh N2 := by rw [eN2]; exact hR.1.put (by decide) (by decide) rfl
    have R4 : RR N2 (pOpn P 1) := by rw [eN2]; exact hR.p29 (o := P.1.2.1 + 1) (ic1 hR.2.2.1 (by omega) (by omega))
    have X5 : RX M N2 := RX.rf.tr (by rw [eN2]; exact RX.put (Or.inl ⟨rfl, by decide⟩))
    replace h := eAload (mi := 198) (pc := 29) (len := 1) (i := 0) rfl rfl h
    replace h := eGetR (a := 181) (j := 1135) (g := 204) R4.1 (by decide) (by decide) rfl rfl rfl (mi := 198) (pc := 30) (len := 3) rfl h
    replace h := eAload (mi := 198) (pc := 33) (len := 1) (i := 0) rfl rfl h
    replace h := eGetI (a := 181) (j := 1131) R4.1 (by decide) (by decide) rfl (mi := 198) (pc := 34) (len := 3) rfl h
    replace h := eConst (mi := 198) (pc := 37) (len := 3) (v := 1048576) rfl h
    replace h := eIload (mi := 198) (pc := 40) (len := 1) (i := 1) rfl rfl h
    replace h := eMul (mi := 198) (pc := 41) (len := 1) rfl h
    obtain ⟨N7, eN7⟩ : ∃ X_, X_ = mPut N2 204 (iv N2 181 31).toInt.toNat (.int ((1048576 : Int32) * w)) := ⟨_, rfl⟩
    obtain ⟨b6, h⟩ := eIast (x := (iv N2 181 31)) (N := N7) R4.1 (a := 204) (by decide) (by decide) eN7 (mi := 198) (pc := 42) (len := 1) rfl h
    have hS8 : Sh N7 := by rw [eN7]; exact R4.1.put (by decide) (by decide) rfl
    have ew : (iv N2 181 31).toInt.toNat = P.1.2.2.2 := by rw [R4.2.2.2.2.1]; rfl
    have k9 : P.1.2.2.2 < 180 := by have q := b6.2; rw [ew] at q; exact q
    have wv : ((1048576 : Int32) * w).toInt = val := by have q := i32_mul (x := 1048576) (y := w) (by show -2147483648 ≤ 1048576 * w.toInt; omega) (by show 1048576 * w.toInt ≤ 2147483647; omega); have q : ((1048576 : Int32) * w).toInt = 1048576 * w.toInt := q; omega
    have R9 : RR N7 ((P.1.1, P.1.2.1 + 1, P.1.2.2), P.2.1, pUp P.2.2 P.1.2.2.2 val) := by rw [eN7, ew]; exact R4.p204 (j := P.1.2.2.2) wv
    have X10 : RX M N7 := X5.tr (by rw [eN7]; exact RX.put (Or.inr (Or.inr rfl)))
    replace h := eAload (mi := 198) (pc := 43) (len := 1) (i := 0) rfl rfl h
    replace h := eAload (mi := 198) (pc := 44) (len := 1) (i := 0) rfl rfl h
    replace h := eGetI (a := 181) (j := 1131) R9.1 (by decide) (by decide) rfl (mi := 198) (pc := 45) (len := 3) rfl h
    replace h := eConst (mi := 198) (pc := 48) (len := 1) (v := 1) rfl h
    replace h := eAdd (mi := 198) (pc := 49) (len := 1) rfl h
    obtain ⟨N11, eN11⟩ : ∃ X_, X_ = mPut N7 181 31 (.int ((iv N7 181 31) + (1 : Int32))) := ⟨_, rfl⟩
    replace h := ePutE (a := 181) (f := 31) (N := N11) rfl eN11 (mi := 198) (pc := 50) (len := 3) (j := 1131) rfl h
    have hS12 : Sh N11 := by rw [eN11]; exact R9.1.put (by decide) (by decide) rfl
    have R13 : RR N11 (pOpn (pPush P val) 1) := by rw [eN11]; exact R9.p31 (w := P.1.2.2.2 + 1) (by have q := ic1 R9.2.2.2.2.1 (by show -1000 ≤ (P.1.2.2.2 : Int); omega) (by show (P.1.2.2.2 : Int) ≤ 1000; omega); rw [q]; rfl) (by omega)
    have X14 : RX M N11 := X10.tr (by rw [eN11]; exact RX.put (Or.inl ⟨rfl, by decide⟩))
    replace h := eAload (mi := 198) (pc := 53) (len := 1) (i := 0) rfl rfl h
    replace h := eAload (mi := 198) (pc := 54) (len := 1) (i := 0) rfl rfl h
    replace h := eGetI (a := 181) (j := 1126) R13.1 (by decide) (by decide) rfl (mi := 198) (pc := 55) (len := 3) rfl h
    replace h := eConst (mi := 198) (pc := 58) (len := 1) (v := 1) rfl h
    replace h := eAdd (mi := 198) (pc := 59) (len := 1) rfl h
    obtain ⟨N15, eN15⟩ : ∃ X_, X_ = mPut N11 181 26 (.int ((iv N11 181 26) + (1 : Int32))) := ⟨_, rfl⟩
    replace h := ePutE (a := 181) (f := 26) (N := N15) rfl eN15 (mi := 198) (pc := 60) (len := 3) (j := 1126) rfl h
    have hS16 : Sh N15 := by rw [eN15]; exact R13.1.put (by decide) (by decide) rfl
    have R17 : RR N15 (pAdv (pOpn (pPush P val) 1)) := by rw [eN15]; exact R13.p26 (p := P.1.1 + 1) (ic1 R13.2.1 (by show -1000 ≤ P.1.1; omega) (by show P.1.1 ≤ 1000; omega))
    have X18 : RX M N15 := X14.tr (by rw [eN15]; exact RX.put (Or.inl ⟨rfl, by decide⟩))
    replace h := eConst (mi := 198) (pc := 63) (len := 1) (v := 1) rfl h
    obtain ⟨e1, e2⟩ := eRetI (mi := 198) (pc := 64) (len := 1) rfl h
    rw [e2]
    exact Or.inr ⟨fun q => c1 (by rw [hR.2.2.1]; exact q), e1, R17, X18⟩
  · replace c1 : (iv M 181 29).toInt = 6 := mC_ne.2 c1
    replace h := eAload (mi := 198) (pc := 9) (len := 1) (i := 0) rfl rfl h
    replace h := eConst (mi := 198) (pc := 10) (len := 1) (v := 5) rfl h
    replace h := eAload (mi := 198) (pc := 11) (len := 1) (i := 0) rfl rfl h
    replace h := eGetI (a := 181) (j := 1126) hR.1 (by decide) (by decide) rfl (mi := 198) (pc := 12) (len := 3) rfl h
    obtain ⟨r19, N20, g21, h⟩ := eCall (mi := 198) (pc := 15) (len := 3) (j := 194) (as := [.ref 181, .int (5 : Int32), .int (iv M 181 26)]) (rest := []) rfl (Or.inr (Or.inl rfl)) (by decide) rfl rfl h
    obtain ⟨q1, q2⟩ := wr_en hR.1 g21
    rw [q1] at h
    obtain ⟨e1, e2⟩ := eRetI (mi := 198) (pc := 18) (len := 1) rfl h
    rw [e2]
    exact Or.inl ⟨by rw [← hR.2.2.1]; exact c1, e1, q2⟩

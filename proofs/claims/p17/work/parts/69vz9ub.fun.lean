/-! facts of two deeds, the class (printed by fn32.py) -/
/-- what the chain's methods leave as it is -/
def qCh (c i : Nat) : Prop := (c < 170 ∨ 176 < c) ∧ (c ≠ 157 ∧ c ≠ 163 ∧ c ≠ 169) ∧ ¬ ((c = 152 ∨ c = 158 ∨ c = 164) ∧ i = 7)
def FzC (M N : Mem) : Prop := ∀ c i, qCh c i → mSlot N c i = mSlot M c i
theorem FzC.rf {M : Mem} : FzC M M := fun _ _ _ => rfl
theorem FzC.tr {A B C : Mem} (h : FzC A B) (h' : FzC B C) : FzC A C := fun c i q => (h' c i q).trans (h c i q)
theorem FzC.si {M N : Mem} (h : FzC M N) {c i : Nat} (q : qCh c i) : iv N c i = iv M c i := by unfold iv; rw [h c i q]
theorem FzC.lo {M N : Mem} (h : FzC M N) {c i : Nat} (q : c < 152 ∨ 176 < c) : iv N c i = iv M c i := h.si (by unfold qCh; omega)
theorem FzC.fx {lo hi : Nat} {A B : Mem} (h : Fx lo hi A B) (h1 : 170 ≤ lo) (h2 : hi ≤ 176) : FzC A B := fun c i q => h c i (by unfold qCh at q; omega)
/-- a strip is faced; what has been asked is not told here -/
def fcd (M : Mem) (s t : Int32) (n : Nat) (N : Mem) : Prop := Sh N ∧ FzC M N ∧ (0 ≤ s.toInt ∧ s.toInt.toNat < 8) ∧ iv N 170 4 = s ∧ iv N 170 5 = t ∧ iv N 170 6 = iv M 5 s.toInt.toNat ∧ mSlot N 170 7 = some (.ref (152 + 6 * (iv M 6 s.toInt.toNat).toInt.toNat)) ∧ (0 ≤ (iv M 6 s.toInt.toNat).toInt ∧ (iv M 6 s.toInt.toNat).toInt.toNat < 3) ∧ lv N 170 8 = sFold M s t n ∧ ∀ p, p < 10 → iv N 171 p = tFold M s n p
theorem fcd_of {M N : Mem} {s t : Int32} {n : Nat} (h : faced M s t n N) : fcd M s t n N := ⟨h.1, FzC.fx h.2.1 (by decide) (by decide), h.2.2.1, h.2.2.2.1, h.2.2.2.2.1, h.2.2.2.2.2.1, h.2.2.2.2.2.2.1, h.2.2.2.2.2.2.2.1, h.2.2.2.2.2.2.2.2.1, h.2.2.2.2.2.2.2.2.2.1⟩
/-- what is written does not touch what has been faced -/
def qFc (c i : Nat) : Prop := (c < 171 ∨ 171 < c) ∧ (c = 170 → 13 < i)
theorem fcd_up {M N N' : Mem} {s t : Int32} {n : Nat} (h : fcd M s t n N) (hS : Sh N') (hz : FzC N N') (hk : ∀ c i, (c = 171 ∨ (c = 170 ∧ i < 10)) → mSlot N' c i = mSlot N c i) : fcd M s t n N' := by
  have hi : ∀ c i, (c = 171 ∨ (c = 170 ∧ i < 10)) → iv N' c i = iv N c i := fun c i q => by unfold iv; rw [hk c i q]
  refine ⟨hS, h.2.1.tr hz, h.2.2.1, (hi 170 4 (by decide)).trans h.2.2.2.1, (hi 170 5 (by decide)).trans h.2.2.2.2.1, (hi 170 6 (by decide)).trans h.2.2.2.2.2.1, (hk 170 7 (by decide)).trans h.2.2.2.2.2.2.1, h.2.2.2.2.2.2.2.1, ?_, fun p hp => (hi 171 p (Or.inl rfl)).trans (h.2.2.2.2.2.2.2.2.2 p hp)⟩
  have e : lv N' 170 8 = lv N 170 8 := by unfold lv; rw [hk 170 8 (by decide)]
  rw [e]
  exact h.2.2.2.2.2.2.2.2.1
theorem fcd_fx {M N N' : Mem} {s t : Int32} {n lo hi : Nat} (h : fcd M s t n N) (hS : Sh N') (f : Fx lo hi N N') (h1 : 172 ≤ lo) (h2 : hi ≤ 176) : fcd M s t n N' := fcd_up h hS (FzC.fx f (by omega) h2) (fun c i q => f c i (by omega))
section
variable {M N : Mem} {s t : Int32} {n : Nat}
theorem fz_d (h : fcd M s t n N) {e f : Nat} (he : e < 40) : iv N (10 + e) f = iv M (10 + e) f := h.2.1.lo (by omega)
theorem fz_mis (h : fcd M s t n N) {e : Nat} (he : e < 40) : bMis N e = bMis M e := by
  unfold bMis
  rw [fz_d h he, fz_d h he]
theorem fz_dead (h : fcd M s t n N) (p u : Int32) : bDead N p u = bDead M p u := by
  unfold bDead
  rw [h.2.1.lo (c := 4) (by decide)]
theorem fz_wild (h : fcd M s t (nC M) N) {e : Nat} (he : e < 40) (hg : (iv M (10 + e) 0).toInt.toNat < 10) (u : Int32) : bWild N e u = wildC M e s u := by
  unfold bWild wildC
  rw [h.2.2.2.2.2.1, fz_d h he, h.2.2.2.2.2.2.2.2.2 _ hg]
  cases decide ((iv M (10 + e) 0).toInt = (iv M 5 s.toInt.toNat).toInt) <;> cases decide (u.toInt < (tFold M s (nC M) (iv M (10 + e) 0).toInt.toNat).toInt) <;> rfl
theorem fz_find (h : fcd M s t (nC M) N) {e : Nat} (he : e < 40) (hg : (iv M (10 + e) 0).toInt.toNat < 10) (u : Int32) : bFind N e u = findC M e s u := by
  unfold bFind findC
  rw [fz_d h he, fz_mis h he, fz_wild h he hg]
  cases wildC M e s u <;> rfl
end
/-- an array of ints, as a function -/
def fcU (g : Nat → Int32) (i : Nat) (v : Int32) : Nat → Int32 := fun k => bif Nat.beq k i then v else g k
def TK (c sz : Nat) (N : Mem) (g : Nat → Int32) : Prop := ∀ k, k < sz → iv N c k = g k
theorem TK.put {c sz i : Nat} {N N' : Mem} {g : Nat → Int32} {v : Int32} (h : TK c sz N g) (hS : Sh N) (h2 : 2 ≤ c) (h3 : c < tEnd) (hz : tSiz (tGrp c) = sz) (hi : i < sz) (e : N' = mPut N c i (.int v)) : TK c sz N' (fcU g i v) := by
  intro k hk
  unfold fcU
  cases q : Nat.beq k i with
  | true =>
    have := Nat.eq_of_beq_eq_true q
    subst this
    rw [e]
    exact iv_put_eq hS h2 h3 (by omega)
  | false =>
    rw [e, iv_put_ne (Or.inr (fun w => by rw [w, Nat.beq_refl] at q; cases q))]
    exact h k hk
/-- the facts of deed d, a later deed e being held against it -/
def fcF (M : Mem) (s t : Int32) (d e : Nat) (v : Nat) : Int32 := match v with
  | 0 => b2 (!decide ((iv M (10 + e) 3).toInt < (iv M (100 + (iv M (10 + e) 1).toInt.toNat) d).toInt))
  | 1 => b2 (findC M d s (iv M (10 + e) 3))
  | 2 => b2 (!decide (t.toInt < (iv M (10 + e) 7).toInt) && decide ((iv M (10 + e) 7).toInt < (iv M (10 + d) 7).toInt))
  | 3 => b2 (!decide (t.toInt < (iv M (10 + d) 7).toInt))
  | 4 => b2 (!decide (t.toInt < (iv M (10 + e) 7).toInt))
  | 5 => iv M (10 + e) 5
  | 6 => iv M (10 + d) 5
  | 7 => iv M (10 + e) 3 - iv M (10 + d) 3
  | 8 => iv M (10 + d) 4
  | 9 => b2 (wildC M d s (iv M (10 + e) 3))
  | 10 => b2 (bMis M d)
  | 11 => b2 (bDead M (iv M (10 + d) 1) t)
  | 12 => s
  | 13 => t
  | _ => 0
/-- the facts of deed d alone -/
def fcL (M : Mem) (s t : Int32) (d : Nat) (v : Nat) : Int32 := match v with
  | 3 => b2 (!decide (t.toInt < (iv M (10 + d) 7).toInt))
  | 6 => iv M (10 + d) 5
  | 8 => iv M (10 + d) 4
  | 10 => b2 (bMis M d)
  | 11 => b2 (bDead M (iv M (10 + d) 1) t)
  | 12 => s
  | 13 => t
  | _ => 0
theorem bif_b {b : Bool} : (bif b then true else false) = b := by cases b <;> rfl
theorem bif_nb {b : Bool} : (bif b then false else true) = !b := by cases b <;> rfl
theorem tell_en {x : Int32} {b : Bool} {n d : Nat} {M : Mem} {r : Option Value} {M1 : Mem} (hS : Sh M) (h : En n d 11 0 (lv_args 0 [.ref 170, .int x, .int (b2 b)]) [] M r M1) : r = none ∧ (0 ≤ (x - (97 : Int32)).toInt ∧ (x - (97 : Int32)).toInt.toNat < 26) ∧ M1 = mPut M 172 (x - (97 : Int32)).toInt.toNat (.int (b2 b)) := by
  replace h := eAload (mi := 11) (pc := 0) (len := 1) (i := 0) rfl rfl h
  replace h := eGetR (a := 170) (j := 10) (g := 172) hS (by decide) (by decide) rfl rfl rfl (mi := 11) (pc := 1) (len := 3) rfl h
  replace h := eIload (mi := 11) (pc := 4) (len := 1) (i := 1) rfl rfl h
  replace h := eConst (mi := 11) (pc := 5) (len := 2) (v := 97) rfl h
  replace h := eSub (mi := 11) (pc := 7) (len := 1) rfl h
  replace h := eIload (mi := 11) (pc := 8) (len := 1) (i := 2) rfl rfl h
  replace h : En n d 11 17 (lv_args 0 [.ref 170, .int x, .int (b2 b)]) [.int (b2 (bif b then true else false)), .int (x - (97 : Int32)), .ref 172] M r M1 := by
    rcases eIf (mi := 11) (pc := 9) (len := 3) (t := 16) rfl rfl h with ⟨c1, h⟩ | ⟨c1, h⟩
    · replace c1 : b = false := mB_eq.1 c1
      replace h := eConst (mi := 11) (pc := 16) (len := 1) (v := 0) rfl h
      have e3 : (bif b then true else false) = false := by
        simp only [c1, cond_true, cond_false]
      rw [e3]
      exact h
    · replace c1 : b = true := mB_eq.2 c1
      replace h := eConst (mi := 11) (pc := 12) (len := 1) (v := 1) rfl h
      replace h := eGoto (mi := 11) (pc := 13) (len := 3) (t := 17) rfl rfl h
      have e3 : (bif b then true else false) = true := by
        simp only [c1, cond_true, cond_false]
      rw [e3]
      exact h
  obtain ⟨N3, eN3⟩ : ∃ X_, X_ = mPut M 172 (x - (97 : Int32)).toInt.toNat (.int (b2 (bif b then true else false))) := ⟨_, rfl⟩
  obtain ⟨bd2, h⟩ := eIast (x := (x - (97 : Int32))) (N := N3) hS (a := 172) (by decide) (by decide) eN3 (mi := 11) (pc := 17) (len := 1) rfl h
  have hS4 : Sh N3 := by rw [eN3]; exact hS.put (by decide) (by decide) rfl
  obtain ⟨e1, e2⟩ := eRetV (mi := 11) (pc := 18) (len := 1) rfl h
  rw [e2, eN3]
  refine ⟨e1, bd2, ?_⟩
  rw [show (bif b then true else false) = b from bif_b]
theorem bif_c {a b : Bool} : (bif a then (bif b then true else false) else false) = (a && b) := by cases a <;> cases b <;> rfl
theorem gOne_en {M N : Mem} {s t : Int32} {d0 : Nat} {g : Nat → Int32} (hZ : fcd M s t (nC M) N) (hd0 : d0 < 40) (hK : TK 172 26 N g) {n d : Nat} {r : Option Value} {M1 : Mem} (h : En n d 10 0 (lv_args 0 [.ref 170, .ref (10 + d0)]) [] N r M1) : r = none ∧ Sh M1 ∧ Fx 172 172 N M1 ∧ TK 172 26 M1 (fcU (fcU (fcU (fcU (fcU (fcU (fcU g 20 (b2 (!decide (t.toInt < (iv M (10 + d0) 7).toInt)))) 6 (iv M (10 + d0) 5)) 10 (iv M (10 + d0) 4)) 8 (b2 (bMis M d0))) 16 (b2 (bDead M (iv M (10 + d0) 1) t))) 7 (s)) 19 (t)) := by
  replace h := eAload (mi := 10) (pc := 0) (len := 1) (i := 0) rfl rfl h
  replace h := eConst (mi := 10) (pc := 1) (len := 2) (v := 117) rfl h
  replace h := eAload (mi := 10) (pc := 3) (len := 1) (i := 1) rfl rfl h
  replace h := eGetD (e := d0) (f := 7) hZ.1 hd0 rfl rfl  (j := 107) (mi := 10) (pc := 4) (len := 3) rfl h
  replace h := eAload (mi := 10) (pc := 7) (len := 1) (i := 0) rfl rfl h
  replace h := eGetI (a := 170) (j := 5) hZ.1 (by decide) (by decide) rfl (mi := 10) (pc := 8) (len := 3) rfl h
  replace h : En n d 10 19 (lv_args 0 [.ref 170, .ref (10 + d0)]) [.int (b2 (bif decide ((iv N 170 5).toInt < (iv N (10 + d0) 7).toInt) then false else true)), .int (117 : Int32), .ref 170] N r M1 := by
    rcases eIc (mi := 10) (pc := 11) (len := 3) (t := 18) rfl rfl h with ⟨c1, h⟩ | ⟨c1, h⟩
    · replace c1 : (iv N 170 5).toInt < (iv N (10 + d0) 7).toInt := mC_gt.1 c1
      replace h := eConst (mi := 10) (pc := 18) (len := 1) (v := 0) rfl h
      have e3 : (bif decide ((iv N 170 5).toInt < (iv N (10 + d0) 7).toInt) then false else true) = false := by
        simp only [decide_eq_true c1, cond_true, cond_false]
      rw [e3]
      exact h
    · replace c1 : ¬ (iv N 170 5).toInt < (iv N (10 + d0) 7).toInt := mC_gt.2 c1
      replace h := eConst (mi := 10) (pc := 14) (len := 1) (v := 1) rfl h
      replace h := eGoto (mi := 10) (pc := 15) (len := 3) (t := 19) rfl rfl h
      have e3 : (bif decide ((iv N 170 5).toInt < (iv N (10 + d0) 7).toInt) then false else true) = true := by
        simp only [decide_eq_false c1, cond_true, cond_false]
      rw [e3]
      exact h
  obtain ⟨r2, N3, g4, h⟩ := eCall (mi := 10) (pc := 19) (len := 3) (j := 11) (as := [.ref 170, .int (117 : Int32), .int (b2 (bif decide ((iv N 170 5).toInt < (iv N (10 + d0) 7).toInt) then false else true))]) (rest := []) rfl (Or.inr (Or.inl rfl)) (by decide) rfl rfl h
  obtain ⟨erN3, _, eN3⟩ := tell_en hZ.1 g4
  rw [erN3] at h
  replace eN3 : N3 = mPut N 172 20 (.int (b2 (bif decide ((iv N 170 5).toInt < (iv N (10 + d0) 7).toInt) then false else true))) := eN3
  have evN3 : (b2 (bif decide ((iv N 170 5).toInt < (iv N (10 + d0) 7).toInt) then false else true)) = b2 (!decide (t.toInt < (iv M (10 + d0) 7).toInt)) := by rw [bif_nb, fz_d hZ hd0, hZ.2.2.2.2.1]
  rw [evN3] at eN3
  have hS5 : Sh N3 := by rw [eN3]; exact hZ.1.put (by decide) (by decide) rfl
  have hKN3 := TK.put hK hZ.1 (by decide) (by decide) rfl (by decide) eN3
  have fxN3 : Fx 172 172 N N3 := Fx.rf.tr (by rw [eN3]; exact Fx.put (by decide) (by decide))
  have hZN3 := fcd_fx hZ hS5 fxN3 (by decide) (by decide)
  replace h := eAload (mi := 10) (pc := 22) (len := 1) (i := 0) rfl rfl h
  replace h := eGetR (a := 170) (j := 10) (g := 172) hS5 (by decide) (by decide) rfl rfl rfl (mi := 10) (pc := 23) (len := 3) rfl h
  replace h := eConst (mi := 10) (pc := 26) (len := 2) (v := 6) rfl h
  replace h := eAload (mi := 10) (pc := 28) (len := 1) (i := 1) rfl rfl h
  replace h := eGetD (e := d0) (f := 5) hS5 hd0 rfl rfl  (j := 105) (mi := 10) (pc := 29) (len := 3) rfl h
  obtain ⟨N7, eN7⟩ : ∃ X_, X_ = mPut N3 172 ((6 : Int32).toInt.toNat) (.int (iv N3 (10 + d0) 5)) := ⟨_, rfl⟩
  obtain ⟨bd6, h⟩ := eIast (x := (6 : Int32)) (N := N7) hS5 (a := 172) (by decide) (by decide) eN7 (mi := 10) (pc := 32) (len := 1) rfl h
  replace eN7 : N7 = mPut N3 172 6 (.int (iv N3 (10 + d0) 5)) := eN7
  have evN7 : (iv N3 (10 + d0) 5) = iv M (10 + d0) 5 := by exact fz_d hZN3 hd0
  rw [evN7] at eN7
  have hS9 : Sh N7 := by rw [eN7]; exact hS5.put (by decide) (by decide) rfl
  have hKN7 := TK.put hKN3 hS5 (by decide) (by decide) rfl (by decide) eN7
  have fxN7 : Fx 172 172 N N7 := fxN3.tr (by rw [eN7]; exact Fx.put (by decide) (by decide))
  have hZN7 := fcd_fx hZ hS9 fxN7 (by decide) (by decide)
  replace h := eAload (mi := 10) (pc := 33) (len := 1) (i := 0) rfl rfl h
  replace h := eGetR (a := 170) (j := 10) (g := 172) hS9 (by decide) (by decide) rfl rfl rfl (mi := 10) (pc := 34) (len := 3) rfl h
  replace h := eConst (mi := 10) (pc := 37) (len := 2) (v := 10) rfl h
  replace h := eAload (mi := 10) (pc := 39) (len := 1) (i := 1) rfl rfl h
  replace h := eGetD (e := d0) (f := 4) hS9 hd0 rfl rfl  (j := 104) (mi := 10) (pc := 40) (len := 3) rfl h
  obtain ⟨N11, eN11⟩ : ∃ X_, X_ = mPut N7 172 ((10 : Int32).toInt.toNat) (.int (iv N7 (10 + d0) 4)) := ⟨_, rfl⟩
  obtain ⟨bd10, h⟩ := eIast (x := (10 : Int32)) (N := N11) hS9 (a := 172) (by decide) (by decide) eN11 (mi := 10) (pc := 43) (len := 1) rfl h
  replace eN11 : N11 = mPut N7 172 10 (.int (iv N7 (10 + d0) 4)) := eN11
  have evN11 : (iv N7 (10 + d0) 4) = iv M (10 + d0) 4 := by exact fz_d hZN7 hd0
  rw [evN11] at eN11
  have hS13 : Sh N11 := by rw [eN11]; exact hS9.put (by decide) (by decide) rfl
  have hKN11 := TK.put hKN7 hS9 (by decide) (by decide) rfl (by decide) eN11
  have fxN11 : Fx 172 172 N N11 := fxN7.tr (by rw [eN11]; exact Fx.put (by decide) (by decide))
  have hZN11 := fcd_fx hZ hS13 fxN11 (by decide) (by decide)
  replace h := eAload (mi := 10) (pc := 44) (len := 1) (i := 0) rfl rfl h
  replace h := eConst (mi := 10) (pc := 45) (len := 2) (v := 105) rfl h
  replace h := eAload (mi := 10) (pc := 47) (len := 1) (i := 1) rfl rfl h
  replace h := eCallP (mi := 10) (pc := 48) (len := 3) (j := 28) (as := [.ref (10 + d0)]) (rest := [.int (105 : Int32), .ref 170]) rfl (Or.inr (Or.inl rfl)) (by decide) rfl rfl (fun _ _ _ _ g => bMis_en hS13 hd0 g) h
  obtain ⟨r14, N15, g16, h⟩ := eCall (mi := 10) (pc := 51) (len := 3) (j := 11) (as := [.ref 170, .int (105 : Int32), .int (b2 (bMis N11 (d0)))]) (rest := []) rfl (Or.inr (Or.inl rfl)) (by decide) rfl rfl h
  obtain ⟨erN15, _, eN15⟩ := tell_en hS13 g16
  rw [erN15] at h
  replace eN15 : N15 = mPut N11 172 8 (.int (b2 (bMis N11 (d0)))) := eN15
  have evN15 : (b2 (bMis N11 (d0))) = b2 (bMis M d0) := by rw [fz_mis hZN11 hd0]
  rw [evN15] at eN15
  have hS17 : Sh N15 := by rw [eN15]; exact hS13.put (by decide) (by decide) rfl
  have hKN15 := TK.put hKN11 hS13 (by decide) (by decide) rfl (by decide) eN15
  have fxN15 : Fx 172 172 N N15 := fxN11.tr (by rw [eN15]; exact Fx.put (by decide) (by decide))
  have hZN15 := fcd_fx hZ hS17 fxN15 (by decide) (by decide)
  replace h := eAload (mi := 10) (pc := 54) (len := 1) (i := 0) rfl rfl h
  replace h := eConst (mi := 10) (pc := 55) (len := 2) (v := 113) rfl h
  replace h := eAload (mi := 10) (pc := 57) (len := 1) (i := 0) rfl rfl h
  replace h := eGetR (a := 170) (j := 0) (g := 3) hS17 (by decide) (by decide) rfl rfl rfl (mi := 10) (pc := 58) (len := 3) rfl h
  replace h := eAload (mi := 10) (pc := 61) (len := 1) (i := 1) rfl rfl h
  replace h := eGetD (e := d0) (f := 1) hS17 hd0 rfl rfl  (j := 101) (mi := 10) (pc := 62) (len := 3) rfl h
  replace h := eAload (mi := 10) (pc := 65) (len := 1) (i := 0) rfl rfl h
  replace h := eGetI (a := 170) (j := 5) hS17 (by decide) (by decide) rfl (mi := 10) (pc := 66) (len := 3) rfl h
  replace h := eCallP (mi := 10) (pc := 69) (len := 3) (j := 106) (as := [.ref 3, .int (iv N15 (10 + d0) 1), .int (iv N15 170 5)]) (rest := [.int (113 : Int32), .ref 170]) rfl (Or.inr (Or.inl rfl)) (by decide) rfl rfl (fun _ _ _ _ g => bDead_en hS17 g) h
  obtain ⟨r18, N19, g20, h⟩ := eCall (mi := 10) (pc := 72) (len := 3) (j := 11) (as := [.ref 170, .int (113 : Int32), .int (b2 (bDead N15 (iv N15 (10 + d0) 1) (iv N15 170 5)))]) (rest := []) rfl (Or.inr (Or.inl rfl)) (by decide) rfl rfl h
  obtain ⟨erN19, _, eN19⟩ := tell_en hS17 g20
  rw [erN19] at h
  replace eN19 : N19 = mPut N15 172 16 (.int (b2 (bDead N15 (iv N15 (10 + d0) 1) (iv N15 170 5)))) := eN19
  have evN19 : (b2 (bDead N15 (iv N15 (10 + d0) 1) (iv N15 170 5))) = b2 (bDead M (iv M (10 + d0) 1) t) := by rw [fz_dead hZN15, fz_d hZN15 hd0, hZN15.2.2.2.2.1]
  rw [evN19] at eN19
  have hS21 : Sh N19 := by rw [eN19]; exact hS17.put (by decide) (by decide) rfl
  have hKN19 := TK.put hKN15 hS17 (by decide) (by decide) rfl (by decide) eN19
  have fxN19 : Fx 172 172 N N19 := fxN15.tr (by rw [eN19]; exact Fx.put (by decide) (by decide))
  have hZN19 := fcd_fx hZ hS21 fxN19 (by decide) (by decide)
  replace h := eAload (mi := 10) (pc := 75) (len := 1) (i := 0) rfl rfl h
  replace h := eGetR (a := 170) (j := 10) (g := 172) hS21 (by decide) (by decide) rfl rfl rfl (mi := 10) (pc := 76) (len := 3) rfl h
  replace h := eConst (mi := 10) (pc := 79) (len := 2) (v := 7) rfl h
  replace h := eAload (mi := 10) (pc := 81) (len := 1) (i := 0) rfl rfl h
  replace h := eGetI (a := 170) (j := 4) hS21 (by decide) (by decide) rfl (mi := 10) (pc := 82) (len := 3) rfl h
  obtain ⟨N23, eN23⟩ : ∃ X_, X_ = mPut N19 172 ((7 : Int32).toInt.toNat) (.int (iv N19 170 4)) := ⟨_, rfl⟩
  obtain ⟨bd22, h⟩ := eIast (x := (7 : Int32)) (N := N23) hS21 (a := 172) (by decide) (by decide) eN23 (mi := 10) (pc := 85) (len := 1) rfl h
  replace eN23 : N23 = mPut N19 172 7 (.int (iv N19 170 4)) := eN23
  have evN23 : (iv N19 170 4) = s := by exact hZN19.2.2.2.1
  rw [evN23] at eN23
  have hS25 : Sh N23 := by rw [eN23]; exact hS21.put (by decide) (by decide) rfl
  have hKN23 := TK.put hKN19 hS21 (by decide) (by decide) rfl (by decide) eN23
  have fxN23 : Fx 172 172 N N23 := fxN19.tr (by rw [eN23]; exact Fx.put (by decide) (by decide))
  have hZN23 := fcd_fx hZ hS25 fxN23 (by decide) (by decide)
  replace h := eAload (mi := 10) (pc := 86) (len := 1) (i := 0) rfl rfl h
  replace h := eGetR (a := 170) (j := 10) (g := 172) hS25 (by decide) (by decide) rfl rfl rfl (mi := 10) (pc := 87) (len := 3) rfl h
  replace h := eConst (mi := 10) (pc := 90) (len := 2) (v := 19) rfl h
  replace h := eAload (mi := 10) (pc := 92) (len := 1) (i := 0) rfl rfl h
  replace h := eGetI (a := 170) (j := 5) hS25 (by decide) (by decide) rfl (mi := 10) (pc := 93) (len := 3) rfl h
  obtain ⟨N27, eN27⟩ : ∃ X_, X_ = mPut N23 172 ((19 : Int32).toInt.toNat) (.int (iv N23 170 5)) := ⟨_, rfl⟩
  obtain ⟨bd26, h⟩ := eIast (x := (19 : Int32)) (N := N27) hS25 (a := 172) (by decide) (by decide) eN27 (mi := 10) (pc := 96) (len := 1) rfl h
  replace eN27 : N27 = mPut N23 172 19 (.int (iv N23 170 5)) := eN27
  have evN27 : (iv N23 170 5) = t := by exact hZN23.2.2.2.2.1
  rw [evN27] at eN27
  have hS29 : Sh N27 := by rw [eN27]; exact hS25.put (by decide) (by decide) rfl
  have hKN27 := TK.put hKN23 hS25 (by decide) (by decide) rfl (by decide) eN27
  have fxN27 : Fx 172 172 N N27 := fxN23.tr (by rw [eN27]; exact Fx.put (by decide) (by decide))
  have hZN27 := fcd_fx hZ hS29 fxN27 (by decide) (by decide)
  obtain ⟨e1, e2⟩ := eRetV (mi := 10) (pc := 97) (len := 1) rfl h
  rw [e2]
  exact ⟨e1, hS29, fxN27, hKN27⟩
theorem gBoth_en {M N : Mem} {s t x y : Int32} (hR : Rf M) (hg : gvC M) (hZ : fcd M s t (nC M) N) {n d : Nat} {r : Option Value} {M1 : Mem} (h : En n d 9 0 (lv_args 0 [.ref 170, .int x, .int y]) [] N r M1) : r = none ∧ Sh M1 ∧ Fx 172 172 N M1 ∧ TK 172 26 M1 (fcU (fcU (fcU (fcU (fcU (fcU (fcU (fcU (fcU (fcU (fcU (fcU (fcU (fcU (fun k => iv N 172 k) 20 (b2 (!decide (t.toInt < (iv M (10 + x.toInt.toNat) 7).toInt)))) 6 (iv M (10 + x.toInt.toNat) 5)) 10 (iv M (10 + x.toInt.toNat) 4)) 8 (b2 (bMis M x.toInt.toNat))) 16 (b2 (bDead M (iv M (10 + x.toInt.toNat) 1) t))) 7 (s)) 19 (t)) 13 (b2 (!decide ((iv M (10 + y.toInt.toNat) 3).toInt < (iv M (100 + (iv M (10 + y.toInt.toNat) 1).toInt.toNat) x.toInt.toNat).toInt)))) 5 (b2 (findC M x.toInt.toNat s (iv M (10 + y.toInt.toNat) 3)))) 2 (b2 (!decide (t.toInt < (iv M (10 + y.toInt.toNat) 7).toInt) && decide ((iv M (10 + y.toInt.toNat) 7).toInt < (iv M (10 + x.toInt.toNat) 7).toInt)))) 21 (b2 (!decide (t.toInt < (iv M (10 + y.toInt.toNat) 7).toInt)))) 15 (iv M (10 + y.toInt.toNat) 5)) 23 (iv M (10 + y.toInt.toNat) 3 - iv M (10 + x.toInt.toNat) 3)) 22 (b2 (wildC M x.toInt.toNat s (iv M (10 + y.toInt.toNat) 3)))) := by
  replace h := eAload (mi := 9) (pc := 0) (len := 1) (i := 0) rfl rfl h
  replace h := eGetR (a := 170) (j := 1) (g := 7) hZ.1 (by decide) (by decide) rfl rfl rfl (mi := 9) (pc := 1) (len := 3) rfl h
  replace h := eGetR (a := 7) (j := 600) (g := 8) hZ.1 (by decide) (by decide) rfl rfl rfl (mi := 9) (pc := 4) (len := 3) rfl h
  replace h := eIload (mi := 9) (pc := 7) (len := 1) (i := 1) rfl rfl h
  obtain ⟨bd1, h⟩ := eDeed (x := x) hZ.1 (fun p hp => (hZ.2.1 8 p (by unfold qCh; omega)).trans (hR.1 p hp)) (mi := 9) (pc := 8) (len := 1) rfl h
  have hx : x.toInt.toNat < 40 := bd1.2
  replace h := eAstore (mi := 9) (pc := 9) (len := 1) (i := 3) rfl (by decide) h
  replace h := eAload (mi := 9) (pc := 10) (len := 1) (i := 0) rfl rfl h
  replace h := eGetR (a := 170) (j := 1) (g := 7) hZ.1 (by decide) (by decide) rfl rfl rfl (mi := 9) (pc := 11) (len := 3) rfl h
  replace h := eGetR (a := 7) (j := 600) (g := 8) hZ.1 (by decide) (by decide) rfl rfl rfl (mi := 9) (pc := 14) (len := 3) rfl h
  replace h := eIload (mi := 9) (pc := 17) (len := 1) (i := 2) rfl rfl h
  obtain ⟨bd2, h⟩ := eDeed (x := y) hZ.1 (fun p hp => (hZ.2.1 8 p (by unfold qCh; omega)).trans (hR.1 p hp)) (mi := 9) (pc := 18) (len := 1) rfl h
  have hy : y.toInt.toNat < 40 := bd2.2
  replace h := eAstore (mi := 9) (pc := 19) (len := 2) (i := 4) rfl (by decide) h
  replace h := eAload (mi := 9) (pc := 21) (len := 2) (i := 4) rfl rfl h
  replace h := eGetD (e := y.toInt.toNat) (f := 7) hZ.1 bd2.2 rfl rfl  (j := 107) (mi := 9) (pc := 23) (len := 3) rfl h
  replace h := eAload (mi := 9) (pc := 26) (len := 1) (i := 0) rfl rfl h
  replace h := eGetI (a := 170) (j := 5) hZ.1 (by decide) (by decide) rfl (mi := 9) (pc := 27) (len := 3) rfl h
  replace h : En n d 9 38 (mSt1 (mSt1 (lv_args 0 [.ref 170, .int x, .int y]) 3 (.ref (10 + x.toInt.toNat))) 4 (.ref (10 + y.toInt.toNat))) [.int (b2 (bif decide ((iv N 170 5).toInt < (iv N (10 + y.toInt.toNat) 7).toInt) then false else true))] N r M1 := by
    rcases eIc (mi := 9) (pc := 30) (len := 3) (t := 37) rfl rfl h with ⟨c3, h⟩ | ⟨c3, h⟩
    · replace c3 : (iv N 170 5).toInt < (iv N (10 + y.toInt.toNat) 7).toInt := mC_gt.1 c3
      replace h := eConst (mi := 9) (pc := 37) (len := 1) (v := 0) rfl h
      have e3 : (bif decide ((iv N 170 5).toInt < (iv N (10 + y.toInt.toNat) 7).toInt) then false else true) = false := by
        simp only [decide_eq_true c3, cond_true, cond_false]
      rw [e3]
      exact h
    · replace c3 : ¬ (iv N 170 5).toInt < (iv N (10 + y.toInt.toNat) 7).toInt := mC_gt.2 c3
      replace h := eConst (mi := 9) (pc := 33) (len := 1) (v := 1) rfl h
      replace h := eGoto (mi := 9) (pc := 34) (len := 3) (t := 38) rfl rfl h
      have e3 : (bif decide ((iv N 170 5).toInt < (iv N (10 + y.toInt.toNat) 7).toInt) then false else true) = true := by
        simp only [decide_eq_false c3, cond_true, cond_false]
      rw [e3]
      exact h
  have ev : (bif decide ((iv N 170 5).toInt < (iv N (10 + y.toInt.toNat) 7).toInt) then false else true) = !decide (t.toInt < (iv M (10 + y.toInt.toNat) 7).toInt) := by rw [bif_nb, fz_d hZ hy, hZ.2.2.2.2.1]
  rw [ev] at h
  replace h := eIstore (mi := 9) (pc := 38) (len := 2) (i := 5) rfl (by decide) h
  replace h := eAload (mi := 9) (pc := 40) (len := 1) (i := 0) rfl rfl h
  replace h := eAload (mi := 9) (pc := 41) (len := 1) (i := 3) rfl rfl h
  obtain ⟨r4, N5, g6, h⟩ := eCall (mi := 9) (pc := 42) (len := 3) (j := 10) (as := [.ref 170, .ref (10 + x.toInt.toNat)]) (rest := []) rfl (Or.inr (Or.inl rfl)) (by decide) rfl rfl h
  obtain ⟨erN5, hSN5, fyN5, hKN5⟩ := gOne_en hZ hx (fun k _ => rfl : TK 172 26 N (fun k => iv N 172 k)) g6
  rw [erN5] at h
  have fxN5 : Fx 172 172 N N5 := Fx.rf.tr fyN5
  have hZN5 := fcd_fx hZ hSN5 fxN5 (by decide) (by decide)
  replace h := eAload (mi := 9) (pc := 45) (len := 1) (i := 0) rfl rfl h
  replace h := eConst (mi := 9) (pc := 46) (len := 2) (v := 110) rfl h
  replace h := eAload (mi := 9) (pc := 48) (len := 1) (i := 0) rfl rfl h
  replace h := eGetR (a := 170) (j := 2) (g := 93) hSN5 (by decide) (by decide) rfl rfl rfl (mi := 9) (pc := 49) (len := 3) rfl h
  replace h := eGetR (a := 93) (j := 307) (g := 99) hSN5 (by decide) (by decide) rfl rfl rfl (mi := 9) (pc := 52) (len := 3) rfl h
  replace h := eAload (mi := 9) (pc := 55) (len := 2) (i := 4) rfl rfl h
  replace h := eGetD (e := y.toInt.toNat) (f := 1) hSN5 bd2.2 rfl rfl  (j := 101) (mi := 9) (pc := 57) (len := 3) rfl h
  obtain ⟨bd7, h⟩ := eRow9 (x := (iv N5 (10 + y.toInt.toNat) 1)) hSN5 (fun p hp => (hZN5.2.1 99 p (by unfold qCh; omega)).trans (hR.2.2.1 p hp)) (mi := 9) (pc := 60) (len := 1) rfl h
  replace h := eIload (mi := 9) (pc := 61) (len := 1) (i := 1) rfl rfl h
  obtain ⟨bd8, h⟩ := eIald (x := x) hSN5 (a := (100 + (iv N5 (10 + y.toInt.toNat) 1).toInt.toNat)) (row_p9 bd7.2).1 (row_p9 bd7.2).2.1 (by rw [(row_p9 bd7.2).2.2]; rfl) (mi := 9) (pc := 62) (len := 1) rfl h
  replace h := eAload (mi := 9) (pc := 63) (len := 2) (i := 4) rfl rfl h
  replace h := eGetD (e := y.toInt.toNat) (f := 3) hSN5 bd2.2 rfl rfl  (j := 103) (mi := 9) (pc := 65) (len := 3) rfl h
  replace h : En n d 9 76 (mSt1 (mSt1 (mSt1 (lv_args 0 [.ref 170, .int x, .int y]) 3 (.ref (10 + x.toInt.toNat))) 4 (.ref (10 + y.toInt.toNat))) 5 (.int (b2 (!decide (t.toInt < (iv M (10 + y.toInt.toNat) 7).toInt))))) [.int (b2 (bif decide ((iv N5 (10 + y.toInt.toNat) 3).toInt < (iv N5 (100 + (iv N5 (10 + y.toInt.toNat) 1).toInt.toNat) x.toInt.toNat).toInt) then false else true)), .int (110 : Int32), .ref 170] N5 r M1 := by
    rcases eIc (mi := 9) (pc := 68) (len := 3) (t := 75) rfl rfl h with ⟨c9, h⟩ | ⟨c9, h⟩
    · replace c9 : (iv N5 (10 + y.toInt.toNat) 3).toInt < (iv N5 (100 + (iv N5 (10 + y.toInt.toNat) 1).toInt.toNat) x.toInt.toNat).toInt := mC_gt.1 c9
      replace h := eConst (mi := 9) (pc := 75) (len := 1) (v := 0) rfl h
      have e3 : (bif decide ((iv N5 (10 + y.toInt.toNat) 3).toInt < (iv N5 (100 + (iv N5 (10 + y.toInt.toNat) 1).toInt.toNat) x.toInt.toNat).toInt) then false else true) = false := by
        simp only [decide_eq_true c9, cond_true, cond_false]
      rw [e3]
      exact h
    · replace c9 : ¬ (iv N5 (10 + y.toInt.toNat) 3).toInt < (iv N5 (100 + (iv N5 (10 + y.toInt.toNat) 1).toInt.toNat) x.toInt.toNat).toInt := mC_gt.2 c9
      replace h := eConst (mi := 9) (pc := 71) (len := 1) (v := 1) rfl h
      replace h := eGoto (mi := 9) (pc := 72) (len := 3) (t := 76) rfl rfl h
      have e3 : (bif decide ((iv N5 (10 + y.toInt.toNat) 3).toInt < (iv N5 (100 + (iv N5 (10 + y.toInt.toNat) 1).toInt.toNat) x.toInt.toNat).toInt) then false else true) = true := by
        simp only [decide_eq_false c9, cond_true, cond_false]
      rw [e3]
      exact h
  obtain ⟨r10, N11, g12, h⟩ := eCall (mi := 9) (pc := 76) (len := 3) (j := 11) (as := [.ref 170, .int (110 : Int32), .int (b2 (bif decide ((iv N5 (10 + y.toInt.toNat) 3).toInt < (iv N5 (100 + (iv N5 (10 + y.toInt.toNat) 1).toInt.toNat) x.toInt.toNat).toInt) then false else true))]) (rest := []) rfl (Or.inr (Or.inl rfl)) (by decide) rfl rfl h
  obtain ⟨erN11, _, eN11⟩ := tell_en hSN5 g12
  rw [erN11] at h
  replace eN11 : N11 = mPut N5 172 13 (.int (b2 (bif decide ((iv N5 (10 + y.toInt.toNat) 3).toInt < (iv N5 (100 + (iv N5 (10 + y.toInt.toNat) 1).toInt.toNat) x.toInt.toNat).toInt) then false else true))) := eN11
  have evN11 : (b2 (bif decide ((iv N5 (10 + y.toInt.toNat) 3).toInt < (iv N5 (100 + (iv N5 (10 + y.toInt.toNat) 1).toInt.toNat) x.toInt.toNat).toInt) then false else true)) = b2 (!decide ((iv M (10 + y.toInt.toNat) 3).toInt < (iv M (100 + (iv M (10 + y.toInt.toNat) 1).toInt.toNat) x.toInt.toNat).toInt)) := by rw [bif_nb, fz_d hZN5 hy, fz_d hZN5 hy, hZN5.2.1.lo (c := 100 + _) (by have := bd7; rw [fz_d hZN5 hy] at this; omega)]
  rw [evN11] at eN11
  have hS13 : Sh N11 := by rw [eN11]; exact hSN5.put (by decide) (by decide) rfl
  have hKN11 := TK.put hKN5 hSN5 (by decide) (by decide) rfl (by decide) eN11
  have fxN11 : Fx 172 172 N N11 := fxN5.tr (by rw [eN11]; exact Fx.put (by decide) (by decide))
  have hZN11 := fcd_fx hZ hS13 fxN11 (by decide) (by decide)
  replace h := eAload (mi := 9) (pc := 79) (len := 1) (i := 0) rfl rfl h
  replace h := eConst (mi := 9) (pc := 80) (len := 2) (v := 102) rfl h
  replace h := eAload (mi := 9) (pc := 82) (len := 1) (i := 0) rfl rfl h
  replace h := eAload (mi := 9) (pc := 83) (len := 1) (i := 3) rfl rfl h
  replace h := eAload (mi := 9) (pc := 84) (len := 2) (i := 4) rfl rfl h
  replace h := eGetD (e := y.toInt.toNat) (f := 3) hS13 bd2.2 rfl rfl  (j := 103) (mi := 9) (pc := 86) (len := 3) rfl h
  replace h := eCallP (mi := 9) (pc := 89) (len := 3) (j := 13) (as := [.ref 170, .ref (10 + x.toInt.toNat), .int (iv N11 (10 + y.toInt.toNat) 3)]) (rest := [.int (102 : Int32), .ref 170]) rfl (Or.inr (Or.inl rfl)) (by decide) rfl rfl (fun _ _ _ _ g => bFind_en hS13 bd1.2 g) h
  obtain ⟨r14, N15, g16, h⟩ := eCall (mi := 9) (pc := 92) (len := 3) (j := 11) (as := [.ref 170, .int (102 : Int32), .int (b2 (bFind N11 (x.toInt.toNat) (iv N11 (10 + y.toInt.toNat) 3)))]) (rest := []) rfl (Or.inr (Or.inl rfl)) (by decide) rfl rfl h
  obtain ⟨erN15, _, eN15⟩ := tell_en hS13 g16
  rw [erN15] at h
  replace eN15 : N15 = mPut N11 172 5 (.int (b2 (bFind N11 (x.toInt.toNat) (iv N11 (10 + y.toInt.toNat) 3)))) := eN15
  have evN15 : (b2 (bFind N11 (x.toInt.toNat) (iv N11 (10 + y.toInt.toNat) 3))) = b2 (findC M x.toInt.toNat s (iv M (10 + y.toInt.toNat) 3)) := by rw [fz_d hZN11 hy, fz_find hZN11 hx (hg _ hx)]
  rw [evN15] at eN15
  have hS17 : Sh N15 := by rw [eN15]; exact hS13.put (by decide) (by decide) rfl
  have hKN15 := TK.put hKN11 hS13 (by decide) (by decide) rfl (by decide) eN15
  have fxN15 : Fx 172 172 N N15 := fxN11.tr (by rw [eN15]; exact Fx.put (by decide) (by decide))
  have hZN15 := fcd_fx hZ hS17 fxN15 (by decide) (by decide)
  replace h := eAload (mi := 9) (pc := 95) (len := 1) (i := 0) rfl rfl h
  replace h := eConst (mi := 9) (pc := 96) (len := 2) (v := 99) rfl h
  replace h := eIload (mi := 9) (pc := 98) (len := 2) (i := 5) rfl rfl h
  replace h : En n d 9 120 (mSt1 (mSt1 (mSt1 (lv_args 0 [.ref 170, .int x, .int y]) 3 (.ref (10 + x.toInt.toNat))) 4 (.ref (10 + y.toInt.toNat))) 5 (.int (b2 (!decide (t.toInt < (iv M (10 + y.toInt.toNat) 7).toInt))))) [.int (b2 (bif (!decide (t.toInt < (iv M (10 + y.toInt.toNat) 7).toInt)) then (bif decide ((iv N15 (10 + y.toInt.toNat) 7).toInt < (iv N15 (10 + x.toInt.toNat) 7).toInt) then true else false) else false)), .int (99 : Int32), .ref 170] N15 r M1 := by
    rcases eIf (mi := 9) (pc := 100) (len := 3) (t := 119) rfl rfl h with ⟨c18, h⟩ | ⟨c18, h⟩
    · replace c18 : (!decide (t.toInt < (iv M (10 + y.toInt.toNat) 7).toInt)) = false := mB_eq.1 c18
      replace h := eConst (mi := 9) (pc := 119) (len := 1) (v := 0) rfl h
      have e3 : (bif (!decide (t.toInt < (iv M (10 + y.toInt.toNat) 7).toInt)) then (bif decide ((iv N15 (10 + y.toInt.toNat) 7).toInt < (iv N15 (10 + x.toInt.toNat) 7).toInt) then true else false) else false) = false := by
        simp only [c18, cond_true, cond_false]
      rw [e3]
      exact h
    · replace c18 : (!decide (t.toInt < (iv M (10 + y.toInt.toNat) 7).toInt)) = true := mB_eq.2 c18
      replace h := eAload (mi := 9) (pc := 103) (len := 2) (i := 4) rfl rfl h
      replace h := eGetD (e := y.toInt.toNat) (f := 7) hS17 bd2.2 rfl rfl  (j := 107) (mi := 9) (pc := 105) (len := 3) rfl h
      replace h := eAload (mi := 9) (pc := 108) (len := 1) (i := 3) rfl rfl h
      replace h := eGetD (e := x.toInt.toNat) (f := 7) hS17 bd1.2 rfl rfl  (j := 107) (mi := 9) (pc := 109) (len := 3) rfl h
      rcases eIc (mi := 9) (pc := 112) (len := 3) (t := 119) rfl rfl h with ⟨c19, h⟩ | ⟨c19, h⟩
      · replace c19 : ¬ (iv N15 (10 + y.toInt.toNat) 7).toInt < (iv N15 (10 + x.toInt.toNat) 7).toInt := mC_ge.1 c19
        replace h := eConst (mi := 9) (pc := 119) (len := 1) (v := 0) rfl h
        have e3 : (bif (!decide (t.toInt < (iv M (10 + y.toInt.toNat) 7).toInt)) then (bif decide ((iv N15 (10 + y.toInt.toNat) 7).toInt < (iv N15 (10 + x.toInt.toNat) 7).toInt) then true else false) else false) = false := by
          simp only [c18, decide_eq_false c19, cond_true, cond_false]
        rw [e3]
        exact h
      · replace c19 : (iv N15 (10 + y.toInt.toNat) 7).toInt < (iv N15 (10 + x.toInt.toNat) 7).toInt := mC_ge.2 c19
        replace h := eConst (mi := 9) (pc := 115) (len := 1) (v := 1) rfl h
        replace h := eGoto (mi := 9) (pc := 116) (len := 3) (t := 120) rfl rfl h
        have e3 : (bif (!decide (t.toInt < (iv M (10 + y.toInt.toNat) 7).toInt)) then (bif decide ((iv N15 (10 + y.toInt.toNat) 7).toInt < (iv N15 (10 + x.toInt.toNat) 7).toInt) then true else false) else false) = true := by
          simp only [c18, decide_eq_true c19, cond_true, cond_false]
        rw [e3]
        exact h
  obtain ⟨r20, N21, g22, h⟩ := eCall (mi := 9) (pc := 120) (len := 3) (j := 11) (as := [.ref 170, .int (99 : Int32), .int (b2 (bif (!decide (t.toInt < (iv M (10 + y.toInt.toNat) 7).toInt)) then (bif decide ((iv N15 (10 + y.toInt.toNat) 7).toInt < (iv N15 (10 + x.toInt.toNat) 7).toInt) then true else false) else false))]) (rest := []) rfl (Or.inr (Or.inl rfl)) (by decide) rfl rfl h
  obtain ⟨erN21, _, eN21⟩ := tell_en hS17 g22
  rw [erN21] at h
  replace eN21 : N21 = mPut N15 172 2 (.int (b2 (bif (!decide (t.toInt < (iv M (10 + y.toInt.toNat) 7).toInt)) then (bif decide ((iv N15 (10 + y.toInt.toNat) 7).toInt < (iv N15 (10 + x.toInt.toNat) 7).toInt) then true else false) else false))) := eN21
  have evN21 : (b2 (bif (!decide (t.toInt < (iv M (10 + y.toInt.toNat) 7).toInt)) then (bif decide ((iv N15 (10 + y.toInt.toNat) 7).toInt < (iv N15 (10 + x.toInt.toNat) 7).toInt) then true else false) else false)) = b2 (!decide (t.toInt < (iv M (10 + y.toInt.toNat) 7).toInt) && decide ((iv M (10 + y.toInt.toNat) 7).toInt < (iv M (10 + x.toInt.toNat) 7).toInt)) := by rw [fz_d hZN15 hy, fz_d hZN15 hx]; exact congrArg b2 bif_c
  rw [evN21] at eN21
  have hS23 : Sh N21 := by rw [eN21]; exact hS17.put (by decide) (by decide) rfl
  have hKN21 := TK.put hKN15 hS17 (by decide) (by decide) rfl (by decide) eN21
  have fxN21 : Fx 172 172 N N21 := fxN15.tr (by rw [eN21]; exact Fx.put (by decide) (by decide))
  have hZN21 := fcd_fx hZ hS23 fxN21 (by decide) (by decide)
  replace h := eAload (mi := 9) (pc := 123) (len := 1) (i := 0) rfl rfl h
  replace h := eConst (mi := 9) (pc := 124) (len := 2) (v := 118) rfl h
  replace h := eIload (mi := 9) (pc := 126) (len := 2) (i := 5) rfl rfl h
  obtain ⟨r24, N25, g26, h⟩ := eCall (mi := 9) (pc := 128) (len := 3) (j := 11) (as := [.ref 170, .int (118 : Int32), .int (b2 (!decide (t.toInt < (iv M (10 + y.toInt.toNat) 7).toInt)))]) (rest := []) rfl (Or.inr (Or.inl rfl)) (by decide) rfl rfl h
  obtain ⟨erN25, _, eN25⟩ := tell_en hS23 g26
  rw [erN25] at h
  replace eN25 : N25 = mPut N21 172 21 (.int (b2 (!decide (t.toInt < (iv M (10 + y.toInt.toNat) 7).toInt)))) := eN25
  have evN25 : (b2 (!decide (t.toInt < (iv M (10 + y.toInt.toNat) 7).toInt))) = b2 (!decide (t.toInt < (iv M (10 + y.toInt.toNat) 7).toInt)) := by rfl
  rw [evN25] at eN25
  have hS27 : Sh N25 := by rw [eN25]; exact hS23.put (by decide) (by decide) rfl
  have hKN25 := TK.put hKN21 hS23 (by decide) (by decide) rfl (by decide) eN25
  have fxN25 : Fx 172 172 N N25 := fxN21.tr (by rw [eN25]; exact Fx.put (by decide) (by decide))
  have hZN25 := fcd_fx hZ hS27 fxN25 (by decide) (by decide)
  replace h := eAload (mi := 9) (pc := 131) (len := 1) (i := 0) rfl rfl h
  replace h := eGetR (a := 170) (j := 10) (g := 172) hS27 (by decide) (by decide) rfl rfl rfl (mi := 9) (pc := 132) (len := 3) rfl h
  replace h := eConst (mi := 9) (pc := 135) (len := 2) (v := 15) rfl h
  replace h := eAload (mi := 9) (pc := 137) (len := 2) (i := 4) rfl rfl h
  replace h := eGetD (e := y.toInt.toNat) (f := 5) hS27 bd2.2 rfl rfl  (j := 105) (mi := 9) (pc := 139) (len := 3) rfl h
  obtain ⟨N29, eN29⟩ : ∃ X_, X_ = mPut N25 172 ((15 : Int32).toInt.toNat) (.int (iv N25 (10 + y.toInt.toNat) 5)) := ⟨_, rfl⟩
  obtain ⟨bd28, h⟩ := eIast (x := (15 : Int32)) (N := N29) hS27 (a := 172) (by decide) (by decide) eN29 (mi := 9) (pc := 142) (len := 1) rfl h
  replace eN29 : N29 = mPut N25 172 15 (.int (iv N25 (10 + y.toInt.toNat) 5)) := eN29
  have evN29 : (iv N25 (10 + y.toInt.toNat) 5) = iv M (10 + y.toInt.toNat) 5 := by exact fz_d hZN25 hy
  rw [evN29] at eN29
  have hS31 : Sh N29 := by rw [eN29]; exact hS27.put (by decide) (by decide) rfl
  have hKN29 := TK.put hKN25 hS27 (by decide) (by decide) rfl (by decide) eN29
  have fxN29 : Fx 172 172 N N29 := fxN25.tr (by rw [eN29]; exact Fx.put (by decide) (by decide))
  have hZN29 := fcd_fx hZ hS31 fxN29 (by decide) (by decide)
  replace h := eAload (mi := 9) (pc := 143) (len := 1) (i := 0) rfl rfl h
  replace h := eGetR (a := 170) (j := 10) (g := 172) hS31 (by decide) (by decide) rfl rfl rfl (mi := 9) (pc := 144) (len := 3) rfl h
  replace h := eConst (mi := 9) (pc := 147) (len := 2) (v := 23) rfl h
  replace h := eAload (mi := 9) (pc := 149) (len := 2) (i := 4) rfl rfl h
  replace h := eGetD (e := y.toInt.toNat) (f := 3) hS31 bd2.2 rfl rfl  (j := 103) (mi := 9) (pc := 151) (len := 3) rfl h
  replace h := eAload (mi := 9) (pc := 154) (len := 1) (i := 3) rfl rfl h
  replace h := eGetD (e := x.toInt.toNat) (f := 3) hS31 bd1.2 rfl rfl  (j := 103) (mi := 9) (pc := 155) (len := 3) rfl h
  replace h := eSub (mi := 9) (pc := 158) (len := 1) rfl h
  obtain ⟨N33, eN33⟩ : ∃ X_, X_ = mPut N29 172 ((23 : Int32).toInt.toNat) (.int ((iv N29 (10 + y.toInt.toNat) 3) - (iv N29 (10 + x.toInt.toNat) 3))) := ⟨_, rfl⟩
  obtain ⟨bd32, h⟩ := eIast (x := (23 : Int32)) (N := N33) hS31 (a := 172) (by decide) (by decide) eN33 (mi := 9) (pc := 159) (len := 1) rfl h
  replace eN33 : N33 = mPut N29 172 23 (.int ((iv N29 (10 + y.toInt.toNat) 3) - (iv N29 (10 + x.toInt.toNat) 3))) := eN33
  have evN33 : ((iv N29 (10 + y.toInt.toNat) 3) - (iv N29 (10 + x.toInt.toNat) 3)) = iv M (10 + y.toInt.toNat) 3 - iv M (10 + x.toInt.toNat) 3 := by rw [fz_d hZN29 hy, fz_d hZN29 hx]
  rw [evN33] at eN33
  have hS35 : Sh N33 := by rw [eN33]; exact hS31.put (by decide) (by decide) rfl
  have hKN33 := TK.put hKN29 hS31 (by decide) (by decide) rfl (by decide) eN33
  have fxN33 : Fx 172 172 N N33 := fxN29.tr (by rw [eN33]; exact Fx.put (by decide) (by decide))
  have hZN33 := fcd_fx hZ hS35 fxN33 (by decide) (by decide)
  replace h := eAload (mi := 9) (pc := 160) (len := 1) (i := 0) rfl rfl h
  replace h := eConst (mi := 9) (pc := 161) (len := 2) (v := 119) rfl h
  replace h := eAload (mi := 9) (pc := 163) (len := 1) (i := 0) rfl rfl h
  replace h := eAload (mi := 9) (pc := 164) (len := 1) (i := 3) rfl rfl h
  replace h := eAload (mi := 9) (pc := 165) (len := 2) (i := 4) rfl rfl h
  replace h := eGetD (e := y.toInt.toNat) (f := 3) hS35 bd2.2 rfl rfl  (j := 103) (mi := 9) (pc := 167) (len := 3) rfl h
  replace h := eCallP (mi := 9) (pc := 170) (len := 3) (j := 12) (as := [.ref 170, .ref (10 + x.toInt.toNat), .int (iv N33 (10 + y.toInt.toNat) 3)]) (rest := [.int (119 : Int32), .ref 170]) rfl (Or.inr (Or.inl rfl)) (by decide) rfl rfl (fun _ _ _ _ g => bWild_en hS35 bd1.2 g) h
  obtain ⟨r36, N37, g38, h⟩ := eCall (mi := 9) (pc := 173) (len := 3) (j := 11) (as := [.ref 170, .int (119 : Int32), .int (b2 (bWild N33 (x.toInt.toNat) (iv N33 (10 + y.toInt.toNat) 3)))]) (rest := []) rfl (Or.inr (Or.inl rfl)) (by decide) rfl rfl h
  obtain ⟨erN37, _, eN37⟩ := tell_en hS35 g38
  rw [erN37] at h
  replace eN37 : N37 = mPut N33 172 22 (.int (b2 (bWild N33 (x.toInt.toNat) (iv N33 (10 + y.toInt.toNat) 3)))) := eN37
  have evN37 : (b2 (bWild N33 (x.toInt.toNat) (iv N33 (10 + y.toInt.toNat) 3))) = b2 (wildC M x.toInt.toNat s (iv M (10 + y.toInt.toNat) 3)) := by rw [fz_d hZN33 hy, fz_wild hZN33 hx (hg _ hx)]
  rw [evN37] at eN37
  have hS39 : Sh N37 := by rw [eN37]; exact hS35.put (by decide) (by decide) rfl
  have hKN37 := TK.put hKN33 hS35 (by decide) (by decide) rfl (by decide) eN37
  have fxN37 : Fx 172 172 N N37 := fxN33.tr (by rw [eN37]; exact Fx.put (by decide) (by decide))
  have hZN37 := fcd_fx hZ hS39 fxN37 (by decide) (by decide)
  obtain ⟨e1, e2⟩ := eRetV (mi := 9) (pc := 176) (len := 1) rfl h
  rw [e2]
  exact ⟨e1, hS39, fxN37, hKN37⟩
theorem gBoth_fc {M N M1 : Mem} {s t x y : Int32} (hK : TK 172 26 M1 (fcU (fcU (fcU (fcU (fcU (fcU (fcU (fcU (fcU (fcU (fcU (fcU (fcU (fcU (fun k => iv N 172 k) 20 (b2 (!decide (t.toInt < (iv M (10 + x.toInt.toNat) 7).toInt)))) 6 (iv M (10 + x.toInt.toNat) 5)) 10 (iv M (10 + x.toInt.toNat) 4)) 8 (b2 (bMis M x.toInt.toNat))) 16 (b2 (bDead M (iv M (10 + x.toInt.toNat) 1) t))) 7 (s)) 19 (t)) 13 (b2 (!decide ((iv M (10 + y.toInt.toNat) 3).toInt < (iv M (100 + (iv M (10 + y.toInt.toNat) 1).toInt.toNat) x.toInt.toNat).toInt)))) 5 (b2 (findC M x.toInt.toNat s (iv M (10 + y.toInt.toNat) 3)))) 2 (b2 (!decide (t.toInt < (iv M (10 + y.toInt.toNat) 7).toInt) && decide ((iv M (10 + y.toInt.toNat) 7).toInt < (iv M (10 + x.toInt.toNat) 7).toInt)))) 21 (b2 (!decide (t.toInt < (iv M (10 + y.toInt.toNat) 7).toInt)))) 15 (iv M (10 + y.toInt.toNat) 5)) 23 (iv M (10 + y.toInt.toNat) 3 - iv M (10 + x.toInt.toNat) 3)) 22 (b2 (wildC M x.toInt.toNat s (iv M (10 + y.toInt.toNat) 3))))) : ∀ v : Nat, v < 14 → iv M1 172 (clF (v : Int)).toNat = fcF M s t x.toInt.toNat y.toInt.toNat v := by
  intro v hv
  have e : v = 0 ∨ v = 1 ∨ v = 2 ∨ v = 3 ∨ v = 4 ∨ v = 5 ∨ v = 6 ∨ v = 7 ∨ v = 8 ∨ v = 9 ∨ v = 10 ∨ v = 11 ∨ v = 12 ∨ v = 13 := by omega
  rcases e with rfl | rfl | rfl | rfl | rfl | rfl | rfl | rfl | rfl | rfl | rfl | rfl | rfl | rfl
  · rw [show (clF ((0 : Nat) : Int)).toNat = 13 by decide]
    exact hK 13 (by decide)
  · rw [show (clF ((1 : Nat) : Int)).toNat = 5 by decide]
    exact hK 5 (by decide)
  · rw [show (clF ((2 : Nat) : Int)).toNat = 2 by decide]
    exact hK 2 (by decide)
  · rw [show (clF ((3 : Nat) : Int)).toNat = 20 by decide]
    exact hK 20 (by decide)
  · rw [show (clF ((4 : Nat) : Int)).toNat = 21 by decide]
    exact hK 21 (by decide)
  · rw [show (clF ((5 : Nat) : Int)).toNat = 15 by decide]
    exact hK 15 (by decide)
  · rw [show (clF ((6 : Nat) : Int)).toNat = 6 by decide]
    exact hK 6 (by decide)
  · rw [show (clF ((7 : Nat) : Int)).toNat = 23 by decide]
    exact hK 23 (by decide)
  · rw [show (clF ((8 : Nat) : Int)).toNat = 10 by decide]
    exact hK 10 (by decide)
  · rw [show (clF ((9 : Nat) : Int)).toNat = 22 by decide]
    exact hK 22 (by decide)
  · rw [show (clF ((10 : Nat) : Int)).toNat = 8 by decide]
    exact hK 8 (by decide)
  · rw [show (clF ((11 : Nat) : Int)).toNat = 16 by decide]
    exact hK 16 (by decide)
  · rw [show (clF ((12 : Nat) : Int)).toNat = 7 by decide]
    exact hK 7 (by decide)
  · rw [show (clF ((13 : Nat) : Int)).toNat = 19 by decide]
    exact hK 19 (by decide)

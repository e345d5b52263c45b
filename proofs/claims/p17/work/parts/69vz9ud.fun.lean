/-! a later deed beats an earlier one, or sheds it: the class (printed by fn33.py) -/
/-- what asking leaves as it is -/
def qOv (c i : Nat) : Prop := (c < 172 ∨ 174 < c) ∧ (c ≠ 157 ∧ c ≠ 163 ∧ c ≠ 169) ∧ ¬ ((c = 152 ∨ c = 158 ∨ c = 164) ∧ i = 7)
def FzO (M N : Mem) : Prop := ∀ c i, qOv c i → mSlot N c i = mSlot M c i
theorem FzO.rf {M : Mem} : FzO M M := fun _ _ _ => rfl
theorem FzO.tr {A B C : Mem} (h : FzO A B) (h' : FzO B C) : FzO A C := fun c i q => (h' c i q).trans (h c i q)
theorem FzO.si {M N : Mem} (h : FzO M N) {c i : Nat} (q : qOv c i) : iv N c i = iv M c i := by unfold iv; rw [h c i q]
theorem FzO.fz {M N : Mem} (h : FzO M N) : FzC M N := fun c i q => h c i (by unfold qCh at q; unfold qOv; omega)
theorem FzO.fx {lo hi : Nat} {A B : Mem} (h : Fx lo hi A B) (h1 : 172 ≤ lo) (h2 : hi ≤ 174) : FzO A B := fun c i q => h c i (by unfold qOv at q; omega)
theorem FzO.put {A : Mem} {a i : Nat} {v : Value} (h1 : 172 ≤ a) (h2 : a ≤ 174) : FzO A (mPut A a i v) := fun c j q => mSlot_put_ne (Or.inl (by unfold qOv at q; omega))
theorem FzO.fa {k : Nat} {A B : Mem} (hk : k < 3) (h : FrA (152 + 6 * k) (152 + 6 * k + 5) A B) : FzO A B := fun c i q => h c i (by unfold qOv at q; omega) (by unfold qOv at q; omega)
theorem fcd_o {M N N' : Mem} {s t : Int32} {n : Nat} (h : fcd M s t n N) (hS : Sh N') (f : FzO N N') : fcd M s t n N' := fcd_up h hS f.fz (fun c i q => f c i (by unfold qOv; omega))
theorem gr_en {k : Nat} (hk : k < 3) {F : Nat → Int} {fc : Nat → Int32} {n0 : Nat} {LT : Nat → Int} {CB CE : Nat → Nat} {sk : Nat → Int} {x1 : Int32} {lt : Int} (h1 : x1.toInt = lt) {n d : Nat} {M : Mem} {r : Option Value} {M1 : Mem} (hS : Sh M) (hG : CLG (152 + 6 * k) (152 + 6 * k + 1) F fc n0 LT CB CE sk M) (h : En n d 64 0 (lv_args 0 [.ref (152 + 6 * k), .int x1, .ref 172]) [] M r M1) : ∃ b : Bool, r = some (.int (b2 b)) ∧ GRl LT lt (EVc F fc CB CE) n0 0 b ∧ Sh M1 ∧ FrA (152 + 6 * k) (152 + 6 * k + 5) M M1 := by
  have e : k = 0 ∨ k = 1 ∨ k = 2 := by omega
  rcases e with rfl | rfl | rfl
  · exact gr152_en h1 hS hG h
  · exact gr158_en h1 hS hG h
  · exact gr164_en h1 hS hG h
/-- the law of a strip -/
def lwK (M : Mem) (s : Int32) : Nat := (iv M 6 s.toInt.toNat).toInt.toNat
/-- laws as they are kept, none too long -/
def lwOk (M : Mem) (W : Nat → WL) : Prop := ∀ k, k < 3 → WOk (pR M) k (W k) ∧ (iv M (152 + 6 * k) 1).toInt ≤ 160
/-- does e beat d, or shed it -/
noncomputable def btF (M : Mem) (W : Nat → WL) (s t : Int32) (lt : Int) (d e : Nat) : Bool := grF (W (lwK M s)) lt (fcF M s t d e)
/-- what has been asked has been answered rightly -/
def memC (M : Mem) (W : Nat → WL) (s t : Int32) (N : Mem) : Prop := ∀ d e, d < 40 → e < nC M → (tbL (lv N 173 e) d = true → tbL (lv N 174 e) d = btF M W s t 98 d e) ∧ (tbL (lv N 173 e) d = false → tbL (lv N 174 e) d = false)
theorem memC_0 {M N : Mem} {W : Nat → WL} {s t : Int32} (h : ∀ e, e < nC M → lv N 173 e = 0 ∧ lv N 174 e = 0) : memC M W s t N := fun d e _ he => by
  rw [(h e he).1, (h e he).2, tb_0]
  exact ⟨fun q => (by cases q), fun _ => rfl⟩
theorem lv_sl {A B : Mem} {c i : Nat} (h : mSlot B c i = mSlot A c i) : lv B c i = lv A c i := by unfold lv; rw [h]
theorem memC_up {M N N' : Mem} {W : Nat → WL} {s t x : Int32} {xn yn : Nat} {g : Bool} (h : memC M W s t N) (hx : x.toInt = (xn : Int)) (x40 : xn < 40) (e1 : lv N' 173 yn = (lv N 173 yn ||| bit1 x)) (e2 : ∀ e, e ≠ yn → lv N' 173 e = lv N 173 e ∧ lv N' 174 e = lv N 174 e) (e3 : lv N' 174 yn = (bif g then (lv N 174 yn ||| bit1 x) else lv N 174 yn)) (hq : tbL (lv N 173 yn) xn = false) (hg : yn < nC M → g = btF M W s t 98 xn yn) : memC M W s t N' := by
  intro d e hd he
  by_cases c : e = yn
  · subst c
    have o := h d e hd he
    have w : tbL (lv N' 174 e) d = (bif g then (tbL (lv N 174 e) d || decide (xn = d)) else tbL (lv N 174 e) d) := by
      rw [e3]
      cases g with
      | true => exact tb_lor hx (by omega)
      | false => rfl
    rw [e1, tb_lor hx (by omega), w]
    by_cases q : xn = d
    · subst q
      rw [decide_eq_true rfl, (o.2 hq), ← hg he]
      refine ⟨fun _ => ?_, fun z => ?_⟩
      · cases g <;> rfl
      · rw [Bool.or_true] at z
        cases z
    · rw [decide_eq_false q, Bool.or_false, Bool.or_false]
      refine ⟨fun z => ?_, fun z => ?_⟩
      · rw [← o.1 z]
        cases g <;> rfl
      · rw [o.2 z]
        cases g <;> rfl
  · rw [(e2 e c).1, (e2 e c).2]
    exact h d e hd he
theorem lwK_lt {M N : Mem} {s t : Int32} {n : Nat} (h : fcd M s t n N) : lwK M s < 3 := h.2.2.2.2.2.2.2.1.2
theorem clg_fc {M N : Mem} {W : Nat → WL} {s t : Int32} {n : Nat} {fc : Nat → Int32} (hW : lwOk M W) (h : fcd M s t n N) (hf : ∀ v : Nat, v < 14 → iv N 172 (clF (v : Int)).toNat = fc v) : CLG (152 + 6 * lwK M s) (152 + 6 * lwK M s + 1) (wF (W (lwK M s))) fc (wN (W (lwK M s))) (wT (W (lwK M s))) (wB (W (lwK M s))) (wE (W (lwK M s))) (wK (W (lwK M s))) N :=
  CLG_of (lwK_lt h) (hW _ (lwK_lt h)).1 (hW _ (lwK_lt h)).2 (fun c i q => h.2.1.si (by unfold qLw at q; unfold qCh; omega)) hf
theorem ov_tail {N : Mem} {x y : Int32} {xn : Nat} (hS : Sh N) (hx : x.toInt = (xn : Int)) (x40 : xn < 40) {n d : Nat} {L : MLoc} {r : Option Value} {M1 : Mem} (l0 : mLd L 0 = some (.ref 170)) (l2 : mLd L 2 = some (.int y)) (l3 : mLd L 3 = some (.long (bit1 x))) (h : En n d 6 59 L [] N r M1) : r = some (.int (b2 (tbL (lv N 174 y.toInt.toNat) xn))) ∧ M1 = N := by
  replace h := eAload (mi := 6) (pc := 59) (len := 1) (i := 0) rfl l0 h
  replace h := eGetR (a := 170) (j := 12) (g := 174) hS (by decide) (by decide) rfl rfl rfl (mi := 6) (pc := 60) (len := 3) rfl h
  replace h := eIload (mi := 6) (pc := 63) (len := 1) (i := 2) rfl l2 h
  obtain ⟨bd1, h⟩ := eLald (x := y) hS (a := 174) (by decide) (by decide) rfl (mi := 6) (pc := 64) (len := 1) rfl h
  replace h := eLload (mi := 6) (pc := 65) (len := 1) (i := 3) rfl l3 h
  replace h := eLand (mi := 6) (pc := 66) (len := 1) rfl h
  replace h := eLdc (mi := 6) (pc := 67) (len := 1) (j := 0) rfl h
  replace h := eLcmp (mi := 6) (pc := 68) (len := 1) rfl h
  replace h : En n d 6 77 L [.int (b2 (bif decide ((lg_cmp ((lv N 174 y.toInt.toNat) &&& (bit1 x)) (0 : Int64)).toInt = 0) then false else true))] N r M1 := by
    rcases eIf (mi := 6) (pc := 69) (len := 3) (t := 76) rfl rfl h with ⟨c2, h⟩ | ⟨c2, h⟩
    · replace c2 : (lg_cmp ((lv N 174 y.toInt.toNat) &&& (bit1 x)) (0 : Int64)).toInt = 0 := mC_eq.1 c2
      replace h := eConst (mi := 6) (pc := 76) (len := 1) (v := 0) rfl h
      have e3 : (bif decide ((lg_cmp ((lv N 174 y.toInt.toNat) &&& (bit1 x)) (0 : Int64)).toInt = 0) then false else true) = false := by
        simp only [decide_eq_true c2, cond_true, cond_false]
      rw [e3]
      exact h
    · replace c2 : ¬ (lg_cmp ((lv N 174 y.toInt.toNat) &&& (bit1 x)) (0 : Int64)).toInt = 0 := mC_eq.2 c2
      replace h := eConst (mi := 6) (pc := 72) (len := 1) (v := 1) rfl h
      replace h := eGoto (mi := 6) (pc := 73) (len := 3) (t := 77) rfl rfl h
      have e3 : (bif decide ((lg_cmp ((lv N 174 y.toInt.toNat) &&& (bit1 x)) (0 : Int64)).toInt = 0) then false else true) = true := by
        simp only [decide_eq_false c2, cond_true, cond_false]
      rw [e3]
      exact h
  obtain ⟨e1, e2⟩ := eRetI (mi := 6) (pc := 77) (len := 1) rfl h
  have e3 : (bif decide ((lg_cmp ((lv N 174 y.toInt.toNat) &&& (bit1 x)) (0 : Int64)).toInt = 0) then false else true) = tbL (lv N 174 y.toInt.toNat) xn := by
    cases q : tbL (lv N 174 y.toInt.toNat) xn with
    | false => rw [decide_eq_true ((tb_land hx (by omega)).mpr q)]; rfl
    | true => rw [decide_eq_false (fun z => by rw [(tb_land hx (by omega)).mp z] at q; cases q)]; rfl
  rw [← e3]
  exact ⟨e1, e2⟩
theorem over_en {M N : Mem} {W : Nat → WL} {s t x y : Int32} {xn : Nat} (hR : Rf M) (hg : gvC M) (hW : lwOk M W) (hx : x.toInt = (xn : Int)) (x40 : xn < 40) (hy : y.toInt.toNat < nC M) (n40 : nC M ≤ 40) (hZ : fcd M s t (nC M) N) (hM : memC M W s t N) {n d : Nat} {r : Option Value} {M1 : Mem} (h : En n d 6 0 (lv_args 0 [.ref 170, .int x, .int y]) [] N r M1) : r = some (.int (b2 (btF M W s t 98 x.toInt.toNat y.toInt.toNat))) ∧ fcd M s t (nC M) M1 ∧ memC M W s t M1 ∧ FzO N M1 := by
  have ex : x.toInt.toNat = xn := by omega
  replace h := eLdc (mi := 6) (pc := 0) (len := 1) (j := 1) rfl h
  replace h := eIload (mi := 6) (pc := 1) (len := 1) (i := 1) rfl rfl h
  replace h := eLshl (mi := 6) (pc := 2) (len := 1) rfl h
  replace h := eLstore (mi := 6) (pc := 3) (len := 1) (i := 3) rfl (by decide) h
  replace h := eAload (mi := 6) (pc := 4) (len := 1) (i := 0) rfl rfl h
  replace h := eGetR (a := 170) (j := 11) (g := 173) hZ.1 (by decide) (by decide) rfl rfl rfl (mi := 6) (pc := 5) (len := 3) rfl h
  replace h := eIload (mi := 6) (pc := 8) (len := 1) (i := 2) rfl rfl h
  obtain ⟨bd1, h⟩ := eLald (x := y) hZ.1 (a := 173) (by decide) (by decide) rfl (mi := 6) (pc := 9) (len := 1) rfl h
  replace h := eLload (mi := 6) (pc := 10) (len := 1) (i := 3) rfl rfl h
  replace h := eLand (mi := 6) (pc := 11) (len := 1) rfl h
  replace h := eLdc (mi := 6) (pc := 12) (len := 1) (j := 0) rfl h
  replace h := eLcmp (mi := 6) (pc := 13) (len := 1) rfl h
  rcases eIf (mi := 6) (pc := 14) (len := 3) (t := 59) rfl rfl h with ⟨c2, h⟩ | ⟨c2, h⟩
  · replace c2 : ¬ (lg_cmp ((lv N 173 y.toInt.toNat) &&& (bit1 x)) (0 : Int64)).toInt = 0 := mC_ne.1 c2
    obtain ⟨z1, z2⟩ := ov_tail hZ.1 hx x40 rfl rfl rfl h
    rw [z2]
    have hq : tbL (lv N 173 y.toInt.toNat) xn = true := by
      cases q : tbL (lv N 173 y.toInt.toNat) xn with
      | true => rfl
      | false => exact absurd ((tb_land hx (by omega)).mpr q) c2
    have ha := (hM xn y.toInt.toNat (by omega) hy).1 hq
    rw [ha] at z1
    exact ⟨by rw [ex]; exact z1, hZ, hM, FzO.rf⟩
  · replace c2 : (lg_cmp ((lv N 173 y.toInt.toNat) &&& (bit1 x)) (0 : Int64)).toInt = 0 := mC_ne.2 c2
    replace h := eAload (mi := 6) (pc := 17) (len := 1) (i := 0) rfl rfl h
    replace h := eGetR (a := 170) (j := 11) (g := 173) hZ.1 (by decide) (by decide) rfl rfl rfl (mi := 6) (pc := 18) (len := 3) rfl h
    replace h := eIload (mi := 6) (pc := 21) (len := 1) (i := 2) rfl rfl h
    replace h := eDup2 (mi := 6) (pc := 22) (len := 1) rfl h
    obtain ⟨bd3, h⟩ := eLald (x := y) hZ.1 (a := 173) (by decide) (by decide) rfl (mi := 6) (pc := 23) (len := 1) rfl h
    replace h := eLload (mi := 6) (pc := 24) (len := 1) (i := 3) rfl rfl h
    replace h := eLor (mi := 6) (pc := 25) (len := 1) rfl h
    obtain ⟨N5, eN5⟩ : ∃ X_, X_ = mPut N 173 y.toInt.toNat (.long ((lv N 173 y.toInt.toNat) ||| (bit1 x))) := ⟨_, rfl⟩
    obtain ⟨bd4, h⟩ := eLast (x := y) (N := N5) hZ.1 (a := 173) (by decide) (by decide) eN5 (mi := 6) (pc := 26) (len := 1) rfl h
    have hS6 : Sh N5 := by rw [eN5]; exact hZ.1.putl (by decide) (by decide) rfl
    have foN5 : FzO N N5 := FzO.rf.tr (by rw [eN5]; exact FzO.put (by decide) (by decide))
    have hZN5 := fcd_o hZ hS6 foN5
    replace h := eAload (mi := 6) (pc := 27) (len := 1) (i := 0) rfl rfl h
    replace h := eIload (mi := 6) (pc := 28) (len := 1) (i := 1) rfl rfl h
    replace h := eIload (mi := 6) (pc := 29) (len := 1) (i := 2) rfl rfl h
    obtain ⟨r7, N8, g9, h⟩ := eCall (mi := 6) (pc := 30) (len := 3) (j := 9) (as := [.ref 170, .int x, .int y]) (rest := []) rfl (Or.inr (Or.inl rfl)) (by decide) rfl rfl h
    obtain ⟨erN8, hSN8, fyN8, hKN8⟩ := gBoth_en hR hg hZN5 g9
    rw [erN8] at h
    have hcN8 := gBoth_fc hKN8
    have foN8 : FzO N N8 := foN5.tr (FzO.fx fyN8 (by decide) (by decide))
    have hZN8 := fcd_o hZ hSN8 foN8
    replace h := eAload (mi := 6) (pc := 33) (len := 1) (i := 0) rfl rfl h
    obtain ⟨w10, hw10, h⟩ := eGetv (j := 7) (mi := 6) (pc := 34) (len := 3) rfl h
    replace hw10 : mSlot N8 170 7 = some w10 := hw10
    rw [hZN8.2.2.2.2.2.2.1] at hw10
    cases hw10
    replace h := eConst (mi := 6) (pc := 37) (len := 2) (v := 98) rfl h
    replace h := eAload (mi := 6) (pc := 39) (len := 1) (i := 0) rfl rfl h
    replace h := eGetR (a := 170) (j := 10) (g := 172) hSN8 (by decide) (by decide) rfl rfl rfl (mi := 6) (pc := 40) (len := 3) rfl h
    obtain ⟨r11, N12, g13, h⟩ := eCall (mi := 6) (pc := 43) (len := 3) (j := 64) (as := [.ref (152 + 6 * (iv M 6 s.toInt.toNat).toInt.toNat), .int (98 : Int32), .ref 172]) (rest := []) rfl (Or.inr (Or.inl rfl)) (by decide) rfl rfl h
    obtain ⟨gbN12, erN12, gqN12, hSN12, faN12⟩ := gr_en (lwK_lt hZ) (lt := 98) rfl hSN8 (clg_fc hW hZN8 hcN8) g13
    have geN12 : gbN12 = btF M W s t 98 x.toInt.toNat y.toInt.toNat := grF_of gqN12
    rw [erN12] at h
    have foN12 : FzO N N12 := foN8.tr (FzO.fa (lwK_lt hZ) faN12)
    have hZN12 := fcd_o hZ hSN12 foN12
    rcases eIf (mi := 6) (pc := 46) (len := 3) (t := 59) rfl rfl h with ⟨c14, h⟩ | ⟨c14, h⟩
    · replace c14 : gbN12 = false := mB_eq.1 c14
      obtain ⟨z1, z2⟩ := ov_tail hSN12 hx x40 rfl rfl rfl h
      rw [z2]
      have hq : tbL (lv N 173 y.toInt.toNat) xn = false := (tb_land hx (by omega)).mp c2
      have y40 : y.toInt.toNat < 40 := by omega
      have k3 := lwK_lt hZ
      have ek : ∀ c i, c = 173 ∨ c = 174 → mSlot N12 c i = mSlot N5 c i := fun c i q => by rw [faN12 c i (by omega) (by omega), fyN8 c i (by omega)]
      have h3 : lv N12 173 y.toInt.toNat = (lv N 173 y.toInt.toNat ||| bit1 x) := by
        rw [lv_sl (ek 173 _ (Or.inl rfl)), eN5]
        exact lv_put_eq hZ.1 (by decide) (by decide) y40
      have h4 : ∀ e, lv N12 174 e = lv N 174 e := fun e => by rw [lv_sl (ek 174 _ (Or.inr rfl)), eN5]; exact lv_put_ne (Or.inl (by decide))
      have h5 : ∀ e, e ≠ y.toInt.toNat → lv N12 173 e = lv N 173 e := fun e q => by rw [lv_sl (ek 173 _ (Or.inl rfl)), eN5]; exact lv_put_ne (Or.inr q)
      have hM2 : memC M W s t N12 := memC_up (g := false) hM hx x40 h3 (fun e q => ⟨h5 e q, h4 e⟩) (h4 _) hq (fun _ => by rw [← ex, ← geN12]; exact c14.symm)
      have v : tbL (lv N12 174 y.toInt.toNat) xn = btF M W s t 98 x.toInt.toNat y.toInt.toNat := by rw [h4, (hM xn y.toInt.toNat (by omega) hy).2 hq, ← geN12]; exact c14.symm
      rw [v] at z1
      exact ⟨z1, hZN12, hM2, foN12⟩
    · replace c14 : gbN12 = true := mB_eq.2 c14
      replace h := eAload (mi := 6) (pc := 49) (len := 1) (i := 0) rfl rfl h
      replace h := eGetR (a := 170) (j := 12) (g := 174) hSN12 (by decide) (by decide) rfl rfl rfl (mi := 6) (pc := 50) (len := 3) rfl h
      replace h := eIload (mi := 6) (pc := 53) (len := 1) (i := 2) rfl rfl h
      replace h := eDup2 (mi := 6) (pc := 54) (len := 1) rfl h
      obtain ⟨bd15, h⟩ := eLald (x := y) hSN12 (a := 174) (by decide) (by decide) rfl (mi := 6) (pc := 55) (len := 1) rfl h
      replace h := eLload (mi := 6) (pc := 56) (len := 1) (i := 3) rfl rfl h
      replace h := eLor (mi := 6) (pc := 57) (len := 1) rfl h
      obtain ⟨N17, eN17⟩ : ∃ X_, X_ = mPut N12 174 y.toInt.toNat (.long ((lv N12 174 y.toInt.toNat) ||| (bit1 x))) := ⟨_, rfl⟩
      obtain ⟨bd16, h⟩ := eLast (x := y) (N := N17) hSN12 (a := 174) (by decide) (by decide) eN17 (mi := 6) (pc := 58) (len := 1) rfl h
      have hS18 : Sh N17 := by rw [eN17]; exact hSN12.putl (by decide) (by decide) rfl
      have foN17 : FzO N N17 := foN12.tr (by rw [eN17]; exact FzO.put (by decide) (by decide))
      have hZN17 := fcd_o hZ hS18 foN17
      obtain ⟨z1, z2⟩ := ov_tail hS18 hx x40 rfl rfl rfl h
      rw [z2]
      have hq : tbL (lv N 173 y.toInt.toNat) xn = false := (tb_land hx (by omega)).mp c2
      have y40 : y.toInt.toNat < 40 := by omega
      have k3 := lwK_lt hZ
      have ek : ∀ c i, c = 173 ∨ c = 174 → mSlot N12 c i = mSlot N5 c i := fun c i q => by rw [faN12 c i (by omega) (by omega), fyN8 c i (by omega)]
      have h3 : lv N17 173 y.toInt.toNat = (lv N 173 y.toInt.toNat ||| bit1 x) := by
        rw [eN17, lv_put_ne (Or.inl (by decide))]
        rw [lv_sl (ek 173 _ (Or.inl rfl)), eN5]
        exact lv_put_eq hZ.1 (by decide) (by decide) y40
      have h4 : ∀ e, lv N12 174 e = lv N 174 e := fun e => by rw [lv_sl (ek 174 _ (Or.inr rfl)), eN5]; exact lv_put_ne (Or.inl (by decide))
      have h5 : ∀ e, e ≠ y.toInt.toNat → lv N12 173 e = lv N 173 e := fun e q => by rw [lv_sl (ek 173 _ (Or.inl rfl)), eN5]; exact lv_put_ne (Or.inr q)
      have h6 : lv N17 174 y.toInt.toNat = (lv N 174 y.toInt.toNat ||| bit1 x) := by rw [eN17, lv_put_eq hSN12 (by decide) (by decide) y40, h4]
      have hM2 : memC M W s t N17 := memC_up (g := true) hM hx x40 h3 (fun e q => ⟨by rw [eN17, lv_put_ne (Or.inl (by decide))]; exact h5 e q, by rw [eN17, lv_put_ne (Or.inr q)]; exact h4 e⟩) h6 hq (fun _ => by rw [← ex, ← geN12]; exact c14.symm)
      have v : tbL (lv N17 174 y.toInt.toNat) xn = btF M W s t 98 x.toInt.toNat y.toInt.toNat := by rw [h6, tb_lor hx (by omega), decide_eq_true rfl, Bool.or_true, ← geN12]; exact c14.symm
      rw [v] at z1
      exact ⟨z1, hZN17, hM2, foN17⟩
theorem clr2_en {M N : Mem} {W : Nat → WL} {s t x y : Int32} (hR : Rf M) (hg : gvC M) (hW : lwOk M W) (hZ : fcd M s t (nC M) N) {n d : Nat} {r : Option Value} {M1 : Mem} (h : En n d 7 0 (lv_args 0 [.ref 170, .int x, .int y]) [] N r M1) : r = some (.int (b2 (btF M W s t 115 x.toInt.toNat y.toInt.toNat))) ∧ fcd M s t (nC M) M1 ∧ FzO N M1 := by
  replace h := eAload (mi := 7) (pc := 0) (len := 1) (i := 0) rfl rfl h
  replace h := eIload (mi := 7) (pc := 1) (len := 1) (i := 1) rfl rfl h
  replace h := eIload (mi := 7) (pc := 2) (len := 1) (i := 2) rfl rfl h
  obtain ⟨r1, N2, g3, h⟩ := eCall (mi := 7) (pc := 3) (len := 3) (j := 9) (as := [.ref 170, .int x, .int y]) (rest := []) rfl (Or.inr (Or.inl rfl)) (by decide) rfl rfl h
  obtain ⟨erN2, hSN2, fyN2, hKN2⟩ := gBoth_en hR hg hZ g3
  rw [erN2] at h
  have hcN2 := gBoth_fc hKN2
  have foN2 : FzO N N2 := FzO.rf.tr (FzO.fx fyN2 (by decide) (by decide))
  have hZN2 := fcd_o hZ hSN2 foN2
  replace h := eAload (mi := 7) (pc := 6) (len := 1) (i := 0) rfl rfl h
  obtain ⟨w4, hw4, h⟩ := eGetv (j := 7) (mi := 7) (pc := 7) (len := 3) rfl h
  replace hw4 : mSlot N2 170 7 = some w4 := hw4
  rw [hZN2.2.2.2.2.2.2.1] at hw4
  cases hw4
  replace h := eConst (mi := 7) (pc := 10) (len := 2) (v := 115) rfl h
  replace h := eAload (mi := 7) (pc := 12) (len := 1) (i := 0) rfl rfl h
  replace h := eGetR (a := 170) (j := 10) (g := 172) hSN2 (by decide) (by decide) rfl rfl rfl (mi := 7) (pc := 13) (len := 3) rfl h
  obtain ⟨r5, N6, g7, h⟩ := eCall (mi := 7) (pc := 16) (len := 3) (j := 64) (as := [.ref (152 + 6 * (iv M 6 s.toInt.toNat).toInt.toNat), .int (115 : Int32), .ref 172]) (rest := []) rfl (Or.inr (Or.inl rfl)) (by decide) rfl rfl h
  obtain ⟨gbN6, erN6, gqN6, hSN6, faN6⟩ := gr_en (lwK_lt hZ) (lt := 115) rfl hSN2 (clg_fc hW hZN2 hcN2) g7
  have geN6 : gbN6 = btF M W s t 115 x.toInt.toNat y.toInt.toNat := grF_of gqN6
  rw [erN6] at h
  have foN6 : FzO N N6 := foN2.tr (FzO.fa (lwK_lt hZ) faN6)
  have hZN6 := fcd_o hZ hSN6 foN6
  obtain ⟨e1, e2⟩ := eRetI (mi := 7) (pc := 19) (len := 1) rfl h
  rw [e2, ← geN6]
  exact ⟨e1, hZN6, foN6⟩
/-- WidowDeeds$Ledger.isAhead -/
def bAhd (M : Mem) (x : Int32) (y : Int32) : Bool := (bif decide ((iv M (10 + x.toInt.toNat) 3).toInt < (iv M (10 + y.toInt.toNat) 3).toInt) then true else (bif decide ((iv M (10 + x.toInt.toNat) 3).toInt = (iv M (10 + y.toInt.toNat) 3).toInt) then (bif decide (x.toInt < y.toInt) then true else false) else false))
theorem bAhd_en {x : Int32} {y : Int32} {n d : Nat} {M : Mem} {r : Option Value} {M1 : Mem} (hS : Sh M) (hY : yT8 M) (h : En n d 90 0 (lv_args 0 [.ref 7, .int x, .int y]) [] M r M1) : r = some (.int (b2 (bAhd M x y))) ∧ M1 = M := by
  replace h := eAload (mi := 90) (pc := 0) (len := 1) (i := 0) rfl rfl h
  replace h := eGetR (a := 7) (j := 600) (g := 8) hS (by decide) (by decide) rfl rfl rfl (mi := 90) (pc := 1) (len := 3) rfl h
  replace h := eIload (mi := 90) (pc := 4) (len := 1) (i := 1) rfl rfl h
  obtain ⟨b1, h⟩ := eDeed (x := x) hS hY (mi := 90) (pc := 5) (len := 1) rfl h
  replace h := eGetD (e := x.toInt.toNat) (f := 3) hS b1.2 rfl rfl  (j := 103) (mi := 90) (pc := 6) (len := 3) rfl h
  replace h := eAload (mi := 90) (pc := 9) (len := 1) (i := 0) rfl rfl h
  replace h := eGetR (a := 7) (j := 600) (g := 8) hS (by decide) (by decide) rfl rfl rfl (mi := 90) (pc := 10) (len := 3) rfl h
  replace h := eIload (mi := 90) (pc := 13) (len := 1) (i := 2) rfl rfl h
  obtain ⟨b2, h⟩ := eDeed (x := y) hS hY (mi := 90) (pc := 14) (len := 1) rfl h
  replace h := eGetD (e := y.toInt.toNat) (f := 3) hS b2.2 rfl rfl  (j := 103) (mi := 90) (pc := 15) (len := 3) rfl h
  rcases eIc (mi := 90) (pc := 18) (len := 3) (t := 47) rfl rfl h with ⟨c3, h⟩ | ⟨c3, h⟩
  · replace c3 : (iv M (10 + x.toInt.toNat) 3).toInt < (iv M (10 + y.toInt.toNat) 3).toInt := mC_lt.1 c3
    replace h := eConst (mi := 90) (pc := 47) (len := 1) (v := 1) rfl h
    replace h := eGoto (mi := 90) (pc := 48) (len := 3) (t := 52) rfl rfl h
    obtain ⟨e1, e2⟩ := eRetI (mi := 90) (pc := 52) (len := 1) rfl h
    have e3 : bAhd M x y = true := by
      unfold bAhd
      simp only [decide_eq_true c3, cond_true, cond_false]
    rw [e3]
    exact ⟨e1, e2⟩
  · replace c3 : ¬ (iv M (10 + x.toInt.toNat) 3).toInt < (iv M (10 + y.toInt.toNat) 3).toInt := mC_lt.2 c3
    replace h := eAload (mi := 90) (pc := 21) (len := 1) (i := 0) rfl rfl h
    replace h := eGetR (a := 7) (j := 600) (g := 8) hS (by decide) (by decide) rfl rfl rfl (mi := 90) (pc := 22) (len := 3) rfl h
    replace h := eIload (mi := 90) (pc := 25) (len := 1) (i := 1) rfl rfl h
    obtain ⟨b4, h⟩ := eDeed (x := x) hS hY (mi := 90) (pc := 26) (len := 1) rfl h
    replace h := eGetD (e := x.toInt.toNat) (f := 3) hS b4.2 rfl rfl  (j := 103) (mi := 90) (pc := 27) (len := 3) rfl h
    replace h := eAload (mi := 90) (pc := 30) (len := 1) (i := 0) rfl rfl h
    replace h := eGetR (a := 7) (j := 600) (g := 8) hS (by decide) (by decide) rfl rfl rfl (mi := 90) (pc := 31) (len := 3) rfl h
    replace h := eIload (mi := 90) (pc := 34) (len := 1) (i := 2) rfl rfl h
    obtain ⟨b5, h⟩ := eDeed (x := y) hS hY (mi := 90) (pc := 35) (len := 1) rfl h
    replace h := eGetD (e := y.toInt.toNat) (f := 3) hS b5.2 rfl rfl  (j := 103) (mi := 90) (pc := 36) (len := 3) rfl h
    rcases eIc (mi := 90) (pc := 39) (len := 3) (t := 51) rfl rfl h with ⟨c6, h⟩ | ⟨c6, h⟩
    · replace c6 : ¬ (iv M (10 + x.toInt.toNat) 3).toInt = (iv M (10 + y.toInt.toNat) 3).toInt := mC_ne.1 c6
      replace h := eConst (mi := 90) (pc := 51) (len := 1) (v := 0) rfl h
      obtain ⟨e1, e2⟩ := eRetI (mi := 90) (pc := 52) (len := 1) rfl h
      have e3 : bAhd M x y = false := by
        unfold bAhd
        simp only [decide_eq_false c3, decide_eq_false c6, cond_true, cond_false]
      rw [e3]
      exact ⟨e1, e2⟩
    · replace c6 : (iv M (10 + x.toInt.toNat) 3).toInt = (iv M (10 + y.toInt.toNat) 3).toInt := mC_ne.2 c6
      replace h := eIload (mi := 90) (pc := 42) (len := 1) (i := 1) rfl rfl h
      replace h := eIload (mi := 90) (pc := 43) (len := 1) (i := 2) rfl rfl h
      rcases eIc (mi := 90) (pc := 44) (len := 3) (t := 51) rfl rfl h with ⟨c7, h⟩ | ⟨c7, h⟩
      · replace c7 : ¬ x.toInt < y.toInt := mC_ge.1 c7
        replace h := eConst (mi := 90) (pc := 51) (len := 1) (v := 0) rfl h
        obtain ⟨e1, e2⟩ := eRetI (mi := 90) (pc := 52) (len := 1) rfl h
        have e3 : bAhd M x y = false := by
          unfold bAhd
          simp only [decide_eq_false c3, decide_eq_true c6, decide_eq_false c7, cond_true, cond_false]
        rw [e3]
        exact ⟨e1, e2⟩
      · replace c7 : x.toInt < y.toInt := mC_ge.2 c7
        replace h := eConst (mi := 90) (pc := 47) (len := 1) (v := 1) rfl h
        replace h := eGoto (mi := 90) (pc := 48) (len := 3) (t := 52) rfl rfl h
        obtain ⟨e1, e2⟩ := eRetI (mi := 90) (pc := 52) (len := 1) rfl h
        have e3 : bAhd M x y = true := by
          unfold bAhd
          simp only [decide_eq_false c3, decide_eq_true c6, decide_eq_true c7, cond_true, cond_false]
        rw [e3]
        exact ⟨e1, e2⟩
def beatsC (M : Mem) (W : Nat → WL) (s x y t w : Int32) (b : Int32) : Prop := b = (bif bDOf M x s && (bDOf M y s && (bDay t && (bIn w 2 && bAhd M x y))) then (bif decide (w.toInt = 0) then b2 (btF M W s t 98 x.toInt.toNat y.toInt.toNat) else b2 (btF M W s t 115 x.toInt.toNat y.toInt.toNat)) else -1)
theorem bDOf_deed {M : Mem} {x s : Int32} (h : bDOf M x s = true) : 0 ≤ x.toInt ∧ x.toInt.toNat < nC M := by
  unfold bDOf at h
  cases q : bDeed M x with
  | false => rw [q] at h; cases h
  | true =>
    have := bIn_true (show bIn x (iv M 7 2) = true from q)
    unfold nC
    omega
theorem beatsC_en {M : Mem} {W : Nat → WL} {s x y t w : Int32} {n d : Nat} {r : Option Value} {M1 : Mem} (hS : Sh M) (hR : Rf M) (hg : gvC M) (hW : lwOk M W) (n40 : nC M ≤ 40) (h : En n d 123 0 (lv_args 0 [.ref 2, .int s, .int x, .int y, .int t, .int w]) [] M r M1) : ∃ b, r = some (.int b) ∧ beatsC M W s x y t w b ∧ FzC M M1 := by
  have hY := hR.1
  replace h := eAload (mi := 123) (pc := 0) (len := 1) (i := 0) rfl rfl h
  replace h := eIload (mi := 123) (pc := 1) (len := 1) (i := 2) rfl rfl h
  replace h := eIload (mi := 123) (pc := 2) (len := 1) (i := 1) rfl rfl h
  replace h := eCallP (mi := 123) (pc := 3) (len := 3) (j := 155) (as := [.ref 2, .int x, .int s]) (rest := []) rfl (Or.inr (Or.inl rfl)) (by decide) rfl rfl (fun _ _ _ _ g => bDOf_en hS hY g) h
  rcases eIf (mi := 123) (pc := 6) (len := 3) (t := 47) rfl rfl h with ⟨c1, h⟩ | ⟨c1, h⟩
  · replace c1 : bDOf M x s = false := mB_eq.1 c1
    replace h := eConst (mi := 123) (pc := 47) (len := 1) (v := (-1)) rfl h
    obtain ⟨e1, e2⟩ := eRetI (mi := 123) (pc := 48) (len := 1) rfl h
    refine ⟨_, e1, ?_, ?_⟩
    · unfold beatsC
      simp only [c1, Bool.true_and, Bool.false_and, Bool.and_true, Bool.and_false, cond_true, cond_false] <;> rfl
    · rw [e2]
      exact FzC.rf
  · replace c1 : bDOf M x s = true := mB_eq.2 c1
    replace h := eAload (mi := 123) (pc := 9) (len := 1) (i := 0) rfl rfl h
    replace h := eIload (mi := 123) (pc := 10) (len := 1) (i := 3) rfl rfl h
    replace h := eIload (mi := 123) (pc := 11) (len := 1) (i := 1) rfl rfl h
    replace h := eCallP (mi := 123) (pc := 12) (len := 3) (j := 155) (as := [.ref 2, .int y, .int s]) (rest := []) rfl (Or.inr (Or.inl rfl)) (by decide) rfl rfl (fun _ _ _ _ g => bDOf_en hS hY g) h
    rcases eIf (mi := 123) (pc := 15) (len := 3) (t := 47) rfl rfl h with ⟨c2, h⟩ | ⟨c2, h⟩
    · replace c2 : bDOf M y s = false := mB_eq.1 c2
      replace h := eConst (mi := 123) (pc := 47) (len := 1) (v := (-1)) rfl h
      obtain ⟨e1, e2⟩ := eRetI (mi := 123) (pc := 48) (len := 1) rfl h
      refine ⟨_, e1, ?_, ?_⟩
      · unfold beatsC
        simp only [c1, c2, Bool.true_and, Bool.false_and, Bool.and_true, Bool.and_false, cond_true, cond_false] <;> rfl
      · rw [e2]
        exact FzC.rf
    · replace c2 : bDOf M y s = true := mB_eq.2 c2
      replace h := eIload (mi := 123) (pc := 18) (len := 2) (i := 4) rfl rfl h
      replace h := eCallP (mi := 123) (pc := 20) (len := 3) (j := 151) (as := [.int t]) (rest := []) rfl (Or.inl rfl) (by decide) rfl rfl (fun _ _ _ _ g => bDay_en hS g) h
      rcases eIf (mi := 123) (pc := 23) (len := 3) (t := 47) rfl rfl h with ⟨c3, h⟩ | ⟨c3, h⟩
      · replace c3 : bDay t = false := mB_eq.1 c3
        replace h := eConst (mi := 123) (pc := 47) (len := 1) (v := (-1)) rfl h
        obtain ⟨e1, e2⟩ := eRetI (mi := 123) (pc := 48) (len := 1) rfl h
        refine ⟨_, e1, ?_, ?_⟩
        · unfold beatsC
          simp only [c1, c2, c3, Bool.true_and, Bool.false_and, Bool.and_true, Bool.and_false, cond_true, cond_false] <;> rfl
        · rw [e2]
          exact FzC.rf
      · replace c3 : bDay t = true := mB_eq.2 c3
        replace h := eIload (mi := 123) (pc := 26) (len := 2) (i := 5) rfl rfl h
        replace h := eConst (mi := 123) (pc := 28) (len := 1) (v := 2) rfl h
        replace h := eCallP (mi := 123) (pc := 29) (len := 3) (j := 148) (as := [.int w, .int (2 : Int32)]) (rest := []) rfl (Or.inl rfl) (by decide) rfl rfl (fun _ _ _ _ g => bIn_en hS g) h
        rcases eIf (mi := 123) (pc := 32) (len := 3) (t := 47) rfl rfl h with ⟨c4, h⟩ | ⟨c4, h⟩
        · replace c4 : bIn w (2 : Int32) = false := mB_eq.1 c4
          replace h := eConst (mi := 123) (pc := 47) (len := 1) (v := (-1)) rfl h
          obtain ⟨e1, e2⟩ := eRetI (mi := 123) (pc := 48) (len := 1) rfl h
          refine ⟨_, e1, ?_, ?_⟩
          · unfold beatsC
            simp only [c1, c2, c3, c4, Bool.true_and, Bool.false_and, Bool.and_true, Bool.and_false, cond_true, cond_false] <;> rfl
          · rw [e2]
            exact FzC.rf
        · replace c4 : bIn w (2 : Int32) = true := mB_eq.2 c4
          replace h := eAload (mi := 123) (pc := 35) (len := 1) (i := 0) rfl rfl h
          replace h := eGetR (a := 2) (j := 1001) (g := 7) hS (by decide) (by decide) rfl rfl rfl (mi := 123) (pc := 36) (len := 3) rfl h
          replace h := eIload (mi := 123) (pc := 39) (len := 1) (i := 2) rfl rfl h
          replace h := eIload (mi := 123) (pc := 40) (len := 1) (i := 3) rfl rfl h
          replace h := eCallP (mi := 123) (pc := 41) (len := 3) (j := 90) (as := [.ref 7, .int x, .int y]) (rest := []) rfl (Or.inr (Or.inl rfl)) (by decide) rfl rfl (fun _ _ _ _ g => bAhd_en hS hY g) h
          rcases eIf (mi := 123) (pc := 44) (len := 3) (t := 49) rfl rfl h with ⟨c5, h⟩ | ⟨c5, h⟩
          · replace c5 : bAhd M x y = true := mB_ne.1 c5
            replace h := eAload (mi := 123) (pc := 49) (len := 1) (i := 0) rfl rfl h
            replace h := eGetR (a := 2) (j := 1008) (g := 170) hS (by decide) (by decide) rfl rfl rfl (mi := 123) (pc := 50) (len := 3) rfl h
            replace h := eIload (mi := 123) (pc := 53) (len := 1) (i := 1) rfl rfl h
            replace h := eIload (mi := 123) (pc := 54) (len := 2) (i := 4) rfl rfl h
            obtain ⟨r6, N7, g8, h⟩ := eCall (mi := 123) (pc := 56) (len := 3) (j := 1) (as := [.ref 170, .int s, .int t]) (rest := []) rfl (Or.inr (Or.inl rfl)) (by decide) rfl rfl h
            obtain ⟨erN7, hFN7⟩ := face_en hS hR g8
            rw [erN7] at h
            have hZN7 := fcd_of hFN7
            have hMN7 : memC M W s t N7 := memC_0 hFN7.2.2.2.2.2.2.2.2.2.2
            have qx := c1
            have qy := c2
            obtain ⟨x0, x1, y0, y1⟩ : 0 ≤ x.toInt ∧ x.toInt.toNat < nC M ∧ 0 ≤ y.toInt ∧ y.toInt.toNat < nC M := by
              have a := bDOf_deed qx
              have b := bDOf_deed qy
              exact ⟨a.1, a.2, b.1, b.2⟩
            replace h := eIload (mi := 123) (pc := 59) (len := 2) (i := 5) rfl rfl h
            rcases eIf (mi := 123) (pc := 61) (len := 3) (t := 76) rfl rfl h with ⟨c9, h⟩ | ⟨c9, h⟩
            · replace c9 : ¬ w.toInt = 0 := mC_ne.1 c9
              replace h := eAload (mi := 123) (pc := 76) (len := 1) (i := 0) rfl rfl h
              replace h := eGetR (a := 2) (j := 1008) (g := 170) hZN7.1 (by decide) (by decide) rfl rfl rfl (mi := 123) (pc := 77) (len := 3) rfl h
              replace h := eIload (mi := 123) (pc := 80) (len := 1) (i := 2) rfl rfl h
              replace h := eIload (mi := 123) (pc := 81) (len := 1) (i := 3) rfl rfl h
              obtain ⟨r10, N11, g12, h⟩ := eCall (mi := 123) (pc := 82) (len := 3) (j := 7) (as := [.ref 170, .int x, .int y]) (rest := []) rfl (Or.inr (Or.inl rfl)) (by decide) rfl rfl h
              obtain ⟨erN11, hZN11, foN11⟩ := clr2_en hR hg hW hZN7 g12
              rw [erN11] at h
              replace h := eIstore (mi := 123) (pc := 85) (len := 2) (i := 6) rfl (by decide) h
              replace h := eIload (mi := 123) (pc := 87) (len := 2) (i := 6) rfl rfl h
              rcases eIf (mi := 123) (pc := 89) (len := 3) (t := 96) rfl rfl h with ⟨c13, h⟩ | ⟨c13, h⟩
              · replace c13 : (btF M W s t 115 x.toInt.toNat y.toInt.toNat) = false := mB_eq.1 c13
                replace h := eConst (mi := 123) (pc := 96) (len := 1) (v := 0) rfl h
                obtain ⟨e1, e2⟩ := eRetI (mi := 123) (pc := 97) (len := 1) rfl h
                refine ⟨_, e1, ?_, ?_⟩
                · unfold beatsC
                  simp only [c1, c2, c3, c4, c5, decide_eq_false c9, c13, Bool.true_and, Bool.false_and, Bool.and_true, Bool.and_false, cond_true, cond_false] <;> rfl
                · rw [e2]
                  exact hZN11.2.1
              · replace c13 : (btF M W s t 115 x.toInt.toNat y.toInt.toNat) = true := mB_eq.2 c13
                replace h := eConst (mi := 123) (pc := 92) (len := 1) (v := 1) rfl h
                replace h := eGoto (mi := 123) (pc := 93) (len := 3) (t := 97) rfl rfl h
                obtain ⟨e1, e2⟩ := eRetI (mi := 123) (pc := 97) (len := 1) rfl h
                refine ⟨_, e1, ?_, ?_⟩
                · unfold beatsC
                  simp only [c1, c2, c3, c4, c5, decide_eq_false c9, c13, Bool.true_and, Bool.false_and, Bool.and_true, Bool.and_false, cond_true, cond_false] <;> rfl
                · rw [e2]
                  exact hZN11.2.1
            · replace c9 : w.toInt = 0 := mC_ne.2 c9
              replace h := eAload (mi := 123) (pc := 64) (len := 1) (i := 0) rfl rfl h
              replace h := eGetR (a := 2) (j := 1008) (g := 170) hZN7.1 (by decide) (by decide) rfl rfl rfl (mi := 123) (pc := 65) (len := 3) rfl h
              replace h := eIload (mi := 123) (pc := 68) (len := 1) (i := 2) rfl rfl h
              replace h := eIload (mi := 123) (pc := 69) (len := 1) (i := 3) rfl rfl h
              obtain ⟨r14, N15, g16, h⟩ := eCall (mi := 123) (pc := 70) (len := 3) (j := 6) (as := [.ref 170, .int x, .int y]) (rest := []) rfl (Or.inr (Or.inl rfl)) (by decide) rfl rfl h
              obtain ⟨erN15, hZN15, _, foN15⟩ := over_en (xn := x.toInt.toNat) hR hg hW (by omega) (by omega) y1 n40 hZN7 hMN7 g16
              rw [erN15] at h
              replace h := eGoto (mi := 123) (pc := 73) (len := 3) (t := 85) rfl rfl h
              replace h := eIstore (mi := 123) (pc := 85) (len := 2) (i := 6) rfl (by decide) h
              replace h := eIload (mi := 123) (pc := 87) (len := 2) (i := 6) rfl rfl h
              rcases eIf (mi := 123) (pc := 89) (len := 3) (t := 96) rfl rfl h with ⟨c17, h⟩ | ⟨c17, h⟩
              · replace c17 : (btF M W s t 98 x.toInt.toNat y.toInt.toNat) = false := mB_eq.1 c17
                replace h := eConst (mi := 123) (pc := 96) (len := 1) (v := 0) rfl h
                obtain ⟨e1, e2⟩ := eRetI (mi := 123) (pc := 97) (len := 1) rfl h
                refine ⟨_, e1, ?_, ?_⟩
                · unfold beatsC
                  simp only [c1, c2, c3, c4, c5, decide_eq_true c9, c17, Bool.true_and, Bool.false_and, Bool.and_true, Bool.and_false, cond_true, cond_false] <;> rfl
                · rw [e2]
                  exact hZN15.2.1
              · replace c17 : (btF M W s t 98 x.toInt.toNat y.toInt.toNat) = true := mB_eq.2 c17
                replace h := eConst (mi := 123) (pc := 92) (len := 1) (v := 1) rfl h
                replace h := eGoto (mi := 123) (pc := 93) (len := 3) (t := 97) rfl rfl h
                obtain ⟨e1, e2⟩ := eRetI (mi := 123) (pc := 97) (len := 1) rfl h
                refine ⟨_, e1, ?_, ?_⟩
                · unfold beatsC
                  simp only [c1, c2, c3, c4, c5, decide_eq_true c9, c17, Bool.true_and, Bool.false_and, Bool.and_true, Bool.and_false, cond_true, cond_false] <;> rfl
                · rw [e2]
                  exact hZN15.2.1
          · replace c5 : bAhd M x y = false := mB_ne.2 c5
            replace h := eConst (mi := 123) (pc := 47) (len := 1) (v := (-1)) rfl h
            obtain ⟨e1, e2⟩ := eRetI (mi := 123) (pc := 48) (len := 1) rfl h
            refine ⟨_, e1, ?_, ?_⟩
            · unfold beatsC
              simp only [c1, c2, c3, c4, c5, Bool.true_and, Bool.false_and, Bool.and_true, Bool.and_false, cond_true, cond_false] <;> rfl
            · rw [e2]
              exact FzC.rf

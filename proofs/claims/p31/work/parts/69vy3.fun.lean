/-! the market: the best set, either side (printed by fn27.py) -/
def wAl (M : Mem) (s : Nat) : Prop := wAll (wDy M) (wPr M) (wEn M) (wHe M) (tb s)
def wG (M : Mem) (s : Nat) : Int := wGain (wPr M) (tb s) 8
def wBe (M : Mem) (s b : Nat) : Prop := wG M b < wG M s ∨ (wG M s = wG M b ∧ pc8 s < pc8 b)
/-- of the sets below s, b is the one that is chosen -/
def wB (M : Mem) : Nat → Nat → Prop
  | 0, b => b = 0
  | s + 1, b => ∃ b0, wB M s b0 ∧ ((wAl M s ∧ wBe M s b0 ∧ b = s) ∨ (¬ (wAl M s ∧ wBe M s b0) ∧ b = b0))
theorem wB_same {M : Mem} : ∀ {s a b : Nat}, wB M s a → wB M s b → a = b
  | 0, _, _, h1, h2 => Eq.trans h1 (Eq.symm h2)
  | s + 1, a, b, ⟨a0, p1, p2⟩, ⟨b0, q1, q2⟩ => by
    have e := wB_same p1 q1
    subst e
    rcases p2 with ⟨x1, x2, x3⟩ | ⟨x1, x2⟩
    · rcases q2 with ⟨_, _, y3⟩ | ⟨y1, _⟩
      · rw [x3, y3]
      · exact absurd ⟨x1, x2⟩ y1
    · rcases q2 with ⟨y1, y2, _⟩ | ⟨_, y2⟩
      · exact absurd ⟨y1, y2⟩ x1
      · rw [x2, y2]
theorem wB_opt {M : Mem} : ∀ {s b : Nat}, wB M s b → ∀ s', s' < s → wAl M s' → wG M s' < wG M b ∨ (wG M s' = wG M b ∧ pc8 b ≤ pc8 s')
  | 0, _, _, s', h, _ => absurd h (Nat.not_lt_zero s')
  | s + 1, b, ⟨b0, h1, h2⟩, s', h, ha => arg_keep (al := wAl M) (gn := wG M) (b := b0) (s := s) (b' := b) (fun s'' q r => wB_opt h1 s'' q r) h2 s' h ha
theorem wB_1 {M : Mem} : wB M 1 0 := by
  refine ⟨0, rfl, Or.inr ⟨fun h => ?_, rfl⟩⟩
  rcases h.2 with q | ⟨_, q⟩
  · exact absurd q (Int.lt_irrefl _)
  · exact absurd q (Nat.lt_irrefl _)
theorem wB_yes {M : Mem} {s b : Nat} (h : wB M s b) (h1 : wAl M s) (h2 : wBe M s b) : wB M (s + 1) s := ⟨b, h, Or.inl ⟨h1, h2, rfl⟩⟩
theorem wB_no {M : Mem} {s b : Nat} (h : wB M s b) (h1 : ¬ (wAl M s ∧ wBe M s b)) : wB M (s + 1) b := ⟨b, h, Or.inr ⟨h1, rfl⟩⟩
/-! cell 151 is written alone -/
theorem wPr_fx {M N : Mem} (f : Fx 151 151 M N) : wPr N = wPr M := by funext i; unfold wPr; rw [f.si (by omega)]
theorem wDy_fx {M N : Mem} (f : Fx 151 151 M N) : wDy N = wDy M := by funext i; unfold wDy; rw [f.si (by omega)]
theorem wEn_fx {M N : Mem} (f : Fx 151 151 M N) : wEn N = wEn M := by funext i; unfold wEn; rw [f.si (by omega)]
theorem wHe_fx {M N : Mem} (f : Fx 151 151 M N) {i j : Nat} (hi : i < 8) : wHe N i j = wHe M i j := by unfold wHe; rw [f.si (by omega)]
theorem wWr_fx {M N : Mem} (f : Fx 151 151 M N) {i j : Nat} (hi : i < 8) : wWr (wDy N) (wEn N) (wHe N) i j = wWr (wDy M) (wEn M) (wHe M) i j := by
  unfold wWr
  rw [wDy_fx f, wEn_fx f, wHe_fx f hi]
theorem wWd_fx {M N : Mem} (f : Fx 151 151 M N) {i j : Nat} (hi : i < 8) : wWd (wDy N) (wEn N) (wHe N) i j = wWd (wDy M) (wEn M) (wHe M) i j := by
  unfold wWd
  rw [wWr_fx f hi, wDy_fx f]
theorem wOk_fx {M N : Mem} (f : Fx 151 151 M N) (h : wOk M) : wOk N := by
  intro i hi
  rw [wPr_fx f, wDy_fx f, wEn_fx f]
  refine ⟨(h i hi).1, (h i hi).2.1, (h i hi).2.2.1, fun j hj => ?_⟩
  rw [wHe_fx f hi]
  exact (h i hi).2.2.2 j hj
theorem wR8_fx {M N : Mem} (f : Fx 151 151 M N) (h : ∀ i, i < 8 → mSlot M 142 i = some (.ref (143 + i))) : ∀ i, i < 8 → mSlot N 142 i = some (.ref (143 + i)) := fun i hi => (f 142 i (by omega)).trans (h i hi)
theorem wAl_fx {M N : Mem} (f : Fx 151 151 M N) {s : Nat} : wAl N s ↔ wAl M s := by
  unfold wAl wAll
  rw [wPr_fx f]
  exact ⟨fun h i hi q => ⟨(h i hi q).1, fun j hj r => (wWd_fx f hi).symm.trans ((h i hi q).2 j hj r)⟩, fun h i hi q => ⟨(h i hi q).1, fun j hj r => (wWd_fx f hi).trans ((h i hi q).2 j hj r)⟩⟩
theorem wG_fx {M N : Mem} (f : Fx 151 151 M N) : wG N = wG M := by
  funext s
  unfold wG
  rw [wPr_fx f]
theorem wB_fx {M N : Mem} (f : Fx 151 151 M N) : ∀ {s b : Nat}, wB N s b → wB M s b
  | 0, _, h => h
  | s + 1, b, ⟨b0, h1, h2⟩ => by
    refine ⟨b0, wB_fx f h1, ?_⟩
    unfold wBe at h2 ⊢
    rw [wAl_fx f, wG_fx f] at h2
    exact h2
/-! the class gathers warnings -/
def wRow (M N : Mem) (i j : Nat) : Prop := 0 ≤ (iv N 151 i).toInt ∧ (iv N 151 i).toInt < 256 ∧ ∀ k, k < 8 → tb (iv N 151 i).toInt.toNat k = (decide (k < j) && wWd (wDy M) (wEn M) (wHe M) i k)
def wGa (M N : Mem) (i : Nat) : Prop := Sh N ∧ Fx 151 151 M N ∧ ∀ i', i' < i → wRow M N i' 8
theorem wRow_eq {M N N' : Mem} {i j : Nat} (e : iv N' 151 i = iv N 151 i) (h : wRow M N i j) : wRow M N' i j := by
  unfold wRow
  rw [e]
  exact h
theorem wRow_0 {M N : Mem} {i : Nat} (e : iv N 151 i = 0) : wRow M N i 0 := by
  unfold wRow
  rw [e]
  refine ⟨by decide, by decide, fun k _ => ?_⟩
  rw [decide_eq_false (Nat.not_lt_zero k)]
  exact Nat.zero_testBit k
theorem wRow_y {M N N' : Mem} {i : Nat} {j : Int32} (j0 : 0 ≤ j.toInt) (j8 : j.toInt < 8) (e : iv N' 151 i = iv N 151 i ||| ((1 : Int32) <<< (j &&& 31))) (hw : wWd (wDy M) (wEn M) (wHe M) i j.toInt.toNat = true) (h : wRow M N i j.toInt.toNat) : wRow M N' i (j.toInt.toNat + 1) := by
  obtain ⟨h0, h1, h2⟩ := h
  obtain ⟨q0, q1, q2⟩ := bo_i h0 h1 j0 j8
  unfold wRow
  rw [e]
  refine ⟨q0, q1, fun k hk => ?_⟩
  rw [q2 k hk, h2 k hk]
  by_cases c : k = j.toInt.toNat
  · rw [decide_eq_true c, decide_eq_true (show k < j.toInt.toNat + 1 by omega), c, hw]
    simp
  · rw [decide_eq_false c, Bool.or_false]
    by_cases c2 : k < j.toInt.toNat
    · rw [decide_eq_true c2, decide_eq_true (show k < j.toInt.toNat + 1 by omega)]
    · rw [decide_eq_false c2, decide_eq_false (show ¬ k < j.toInt.toNat + 1 by omega)]
theorem wRow_n {M N : Mem} {i j : Nat} (hw : wWd (wDy M) (wEn M) (wHe M) i j = false) (h : wRow M N i j) : wRow M N i (j + 1) := by
  obtain ⟨h0, h1, h2⟩ := h
  refine ⟨h0, h1, fun k hk => ?_⟩
  rw [h2 k hk]
  by_cases c : k = j
  · rw [c, hw, Bool.and_false, Bool.and_false]
  · by_cases c2 : k < j
    · rw [decide_eq_true c2, decide_eq_true (show k < j + 1 by omega)]
    · rw [decide_eq_false c2, decide_eq_false (show ¬ k < j + 1 by omega)]
theorem wGa_up {M N N' : Mem} {i : Nat} (hS : Sh N') (f : Fx 151 151 M N') (hne : ∀ k, k ≠ i → iv N' 151 k = iv N 151 k) (h : wGa M N i) : wGa M N' i := ⟨hS, f, fun k hk => wRow_eq (hne k (by omega)) (h.2.2 k hk)⟩
theorem wGa_s {M N : Mem} {i j : Nat} (hj : j = 8) (h : wGa M N i) (hr : wRow M N i j) : wGa M N (i + 1) := by
  refine ⟨h.1, h.2.1, fun k hk => ?_⟩
  by_cases c : k = i
  · rw [c, ← hj]
    exact hr
  · exact h.2.2 k (by omega)
theorem gw_lp {M : Mem} (hR8 : ∀ i, i < 8 → mSlot M 142 i = some (.ref (143 + i))) (hp : wOk M) : ∀ (n : Nat), (∀ {d : Nat} {L : MLoc} {N : Mem} {r : Option Value} {M1 : Mem} {i : Int32}, mLd L 0 = some (.ref 138) → mLd L 1 = some (.int i) → 0 ≤ i.toInt → i.toInt ≤ 8 → wGa M N i.toInt.toNat → En n d 100 2 L [] N r M1 → r = none ∧ wGa M M1 8) ∧ (∀ {d : Nat} {L : MLoc} {N : Mem} {r : Option Value} {M1 : Mem} {i j : Int32}, mLd L 0 = some (.ref 138) → mLd L 1 = some (.int i) → mLd L 2 = some (.int j) → 0 ≤ i.toInt → i.toInt < 8 → 0 ≤ j.toInt → j.toInt ≤ 8 → wGa M N i.toInt.toNat → wRow M N i.toInt.toNat j.toInt.toNat → En n d 100 17 L [] N r M1 → r = none ∧ wGa M M1 8) := by
  intro n
  induction n with
  | zero =>
    constructor
    · intro d L N r M1 i _ _ _ _ _ h; exact (En.zero (mi := 100) (pc := 2) (len := 1) rfl h).elim
    · intro d L N r M1 i j _ _ _ _ _ _ _ _ _ h; exact (En.zero (mi := 100) (pc := 17) (len := 1) rfl h).elim
  | succ n ih =>
    constructor
    · intro d L N r M1 i l0 l1 i0 i8 hG h
      have hS := hG.1
      have f := hG.2.1
      have ei : i.toInt < 8 → (i + 1).toInt = i.toInt + 1 := fun _ => i32_inc i0 (by omega)
      replace h := eIloadS (mi := 100) (pc := 2) (len := 1) (i := 1) rfl l1 h
      replace h := eConst (mi := 100) (pc := 3) (len := 2) (v := 8) rfl h
      rcases eIc (mi := 100) (pc := 5) (len := 3) (t := 56) rfl rfl h with ⟨c1, h⟩ | ⟨c1, h⟩
      · replace c1 : ¬ i.toInt < 8 := mC_ge.1 c1
        obtain ⟨e1, e2⟩ := eRetV (mi := 100) (pc := 56) (len := 1) rfl h
        refine ⟨e1, ?_⟩
        rw [e2, ← show i.toInt.toNat = 8 by omega]
        exact hG
      · replace c1 : i.toInt < 8 := mC_ge.2 c1
        replace h := eAload (mi := 100) (pc := 8) (len := 1) (i := 0) rfl l0 h
        replace h := eGetR (a := 138) (j := 704) (g := 151) hS (by decide) (by decide) rfl rfl rfl (mi := 100) (pc := 9) (len := 3) rfl h
        replace h := eIload (mi := 100) (pc := 12) (len := 1) (i := 1) rfl l1 h
        replace h := eConst (mi := 100) (pc := 13) (len := 1) (v := 0) rfl h
        obtain ⟨N3, eN3⟩ : ∃ X_, X_ = mPut N 151 i.toInt.toNat (.int (0 : Int32)) := ⟨_, rfl⟩
        obtain ⟨b2, h⟩ := eIast (x := i) (N := N3) hS (a := 151) (by decide) (by decide) eN3 (mi := 100) (pc := 14) (len := 1) rfl h
        have hS4 : Sh N3 := by rw [eN3]; exact hS.put (by decide) (by decide) rfl
        have fx5 : Fx 151 151 M N3 := f.tr (by rw [eN3]; exact Fx.put (by decide) (by decide))
        replace h := eConst (mi := 100) (pc := 15) (len := 1) (v := 0) rfl h
        replace h := eIstore (mi := 100) (pc := 16) (len := 1) (i := 2) rfl (by decide) h
        have hw : wGa M N3 i.toInt.toNat := wGa_up hS4 fx5 (fun k hk => by rw [eN3]; exact iv_put_ne (Or.inr hk)) hG
        have hr : iv N3 151 i.toInt.toNat = 0 := by rw [eN3]; exact iv_put_eq hS (by decide) (by decide) (by show i.toInt.toNat < 8; omega)
        exact ih.2 (j := 0) (mLd_st1_ref (by decide) l0) (mLd_st1_int (by decide) l1) mLd_st1_i i0 (by omega) (Int.le_refl 0) (by decide) hw (wRow_0 hr) h
    · intro d L N r M1 i j l0 l1 l2 i0 i8 j0 j8 hG hW h
      have hS := hG.1
      have f := hG.2.1
      have hR8N := wR8_fx f hR8
      have hpN := wOk_fx f hp
      have ei : (i + 1).toInt = i.toInt + 1 := i32_inc i0 (by omega)
      have ej : j.toInt < 8 → (j + 1).toInt = j.toInt + 1 := fun _ => i32_inc j0 (by omega)
      have en : j.toInt < 8 → (j + 1).toInt.toNat = j.toInt.toNat + 1 := fun q => by rw [ej q]; omega
      replace h := eIloadS (mi := 100) (pc := 17) (len := 1) (i := 2) rfl l2 h
      replace h := eConst (mi := 100) (pc := 18) (len := 2) (v := 8) rfl h
      rcases eIc (mi := 100) (pc := 20) (len := 3) (t := 50) rfl rfl h with ⟨c1, h⟩ | ⟨c1, h⟩
      · replace c1 : ¬ j.toInt < 8 := mC_ge.1 c1
        replace h := eIinc (mi := 100) (pc := 50) (len := 3) (i := 1) (k := 1) rfl l1 (by decide) h
        replace h := eGoto (mi := 100) (pc := 53) (len := 3) (t := 2) rfl rfl h
        refine ih.1 (i := i + 1) (mLd_st1_ref (by decide) l0) mLd_st1_i (by omega) (by omega) ?_ h
        rw [show (i + 1).toInt.toNat = i.toInt.toNat + 1 by omega]
        exact wGa_s (j := j.toInt.toNat) (by omega) hG hW
      · replace c1 : j.toInt < 8 := mC_ge.2 c1
        replace h := eAload (mi := 100) (pc := 23) (len := 1) (i := 0) rfl l0 h
        replace h := eIload (mi := 100) (pc := 24) (len := 1) (i := 1) rfl l1 h
        replace h := eIload (mi := 100) (pc := 25) (len := 1) (i := 2) rfl l2 h
        obtain ⟨r2, N3, g4, h⟩ := eCall (mi := 100) (pc := 26) (len := 3) (j := 101) (as := [.ref 138, .int i, .int j]) (rest := []) rfl (Or.inr (Or.inl rfl)) (by decide) rfl rfl h
        obtain ⟨_, _, qr2, mr2⟩ := warned_en (i := i) (j := j) hS hR8N hpN g4
        rw [qr2, mr2, wWd_fx f (show i.toInt.toNat < 8 by omega)] at h
        rcases eIf (mi := 100) (pc := 29) (len := 3) (t := 44) rfl rfl h with ⟨c5, h⟩ | ⟨c5, h⟩
        · replace c5 : wWd (wDy M) (wEn M) (wHe M) i.toInt.toNat j.toInt.toNat = false := mB_eq.1 c5
          replace h := eIinc (mi := 100) (pc := 44) (len := 3) (i := 2) (k := 1) rfl l2 (by decide) h
          replace h := eGoto (mi := 100) (pc := 47) (len := 3) (t := 17) rfl rfl h
          have hw := hG
          have hq := wRow_n c5 hW
          rw [← en (by omega)] at hq
          exact ih.2 (j := j + 1) (mLd_st1_ref (by decide) l0) (mLd_st1_int (by decide) l1) mLd_st1_i i0 i8 (by omega) (by omega) hw hq h
        · replace c5 : wWd (wDy M) (wEn M) (wHe M) i.toInt.toNat j.toInt.toNat = true := mB_eq.2 c5
          replace h := eAload (mi := 100) (pc := 32) (len := 1) (i := 0) rfl l0 h
          replace h := eGetR (a := 138) (j := 704) (g := 151) hS (by decide) (by decide) rfl rfl rfl (mi := 100) (pc := 33) (len := 3) rfl h
          replace h := eIload (mi := 100) (pc := 36) (len := 1) (i := 1) rfl l1 h
          replace h := eDup2 (mi := 100) (pc := 37) (len := 1) rfl h
          obtain ⟨b6, h⟩ := eIald (x := i) hS (a := 151) (by decide) (by decide) rfl (mi := 100) (pc := 38) (len := 1) rfl h
          replace h := eConst (mi := 100) (pc := 39) (len := 1) (v := 1) rfl h
          replace h := eIload (mi := 100) (pc := 40) (len := 1) (i := 2) rfl l2 h
          replace h := eShl (mi := 100) (pc := 41) (len := 1) rfl h
          replace h := eOr (mi := 100) (pc := 42) (len := 1) rfl h
          obtain ⟨N8, eN8⟩ : ∃ X_, X_ = mPut N 151 i.toInt.toNat (.int ((iv N 151 i.toInt.toNat) ||| ((1 : Int32) <<< (j &&& 31)))) := ⟨_, rfl⟩
          obtain ⟨b7, h⟩ := eIast (x := i) (N := N8) hS (a := 151) (by decide) (by decide) eN8 (mi := 100) (pc := 43) (len := 1) rfl h
          have hS9 : Sh N8 := by rw [eN8]; exact hS.put (by decide) (by decide) rfl
          have fx10 : Fx 151 151 M N8 := f.tr (by rw [eN8]; exact Fx.put (by decide) (by decide))
          replace h := eIinc (mi := 100) (pc := 44) (len := 3) (i := 2) (k := 1) rfl l2 (by decide) h
          replace h := eGoto (mi := 100) (pc := 47) (len := 3) (t := 17) rfl rfl h
          have hw : wGa M N8 i.toInt.toNat := wGa_up hS9 fx10 (fun k hk => by rw [eN8]; exact iv_put_ne (Or.inr hk)) hG
          have hr : iv N8 151 i.toInt.toNat = iv N 151 i.toInt.toNat ||| ((1 : Int32) <<< (j &&& 31)) := by rw [eN8]; exact iv_put_eq hS (by decide) (by decide) (by show i.toInt.toNat < 8; omega)
          have hq := wRow_y j0 (by omega) hr c5 hW
          rw [← en (by omega)] at hq
          exact ih.2 (j := j + 1) (mLd_st1_ref (by decide) l0) (mLd_st1_int (by decide) l1) mLd_st1_i i0 i8 (by omega) (by omega) hw hq h
theorem gw_en {M : Mem} (hS : Sh M) (hR8 : ∀ i, i < 8 → mSlot M 142 i = some (.ref (143 + i))) (hp : wOk M) {n d : Nat} {r : Option Value} {M1 : Mem} (h : En n d 100 0 (lv_args 0 [.ref 138]) [] M r M1) : r = none ∧ wGa M M1 8 := by
  replace h := eConst (mi := 100) (pc := 0) (len := 1) (v := 0) rfl h
  replace h := eIstore (mi := 100) (pc := 1) (len := 1) (i := 1) rfl (by decide) h
  exact (gw_lp hR8 hp n).1 (i := 0) rfl rfl (Int.le_refl 0) (by decide) ⟨hS, Fx.rf, fun k hk => absurd hk (Nat.not_lt_zero k)⟩ h
theorem an_n : ∀ x, x < 256 → ∀ y, y < 256 → Int32.ofNat x &&& Int32.ofNat y = Int32.ofNat (x &&& y) := fun x _ y _ => by
  apply Int32.toBitVec_inj.mp
  show BitVec.ofNat 32 x &&& BitVec.ofNat 32 y = BitVec.ofNat 32 (x &&& y)
  exact (BitVec.ofNat_and).symm
theorem an_i {x y : Int32} (h0 : 0 ≤ x.toInt) (h1 : x.toInt < 256) (y0 : 0 ≤ y.toInt) (y1 : y.toInt < 256) : (x &&& y).toInt = ((x.toInt.toNat &&& y.toInt.toNat : Nat) : Int) := by
  have e := an_n x.toInt.toNat (by omega) y.toInt.toNat (by omega)
  rw [← i32_of h0, ← i32_of y0] at e
  rw [e]
  have q : x.toInt.toNat &&& y.toInt.toNat ≤ x.toInt.toNat := Nat.and_le_left
  exact Int32.toInt_ofNat_of_lt (by omega)
theorem an_z {x y : Int32} (h0 : 0 ≤ x.toInt) (h1 : x.toInt < 256) (y0 : 0 ≤ y.toInt) (y1 : y.toInt < 256) (h : (x &&& y).toInt = 0) : ∀ k, k < 8 → tb x.toInt.toNat k = true → tb y.toInt.toNat k = false := by
  intro k _ hk
  rw [an_i h0 h1 y0 y1] at h
  have e : x.toInt.toNat &&& y.toInt.toNat = 0 := by omega
  have e2 : tb (x.toInt.toNat &&& y.toInt.toNat) k = (tb x.toInt.toNat k && tb y.toInt.toNat k) := Nat.testBit_and _ _ _
  rw [e, hk, Bool.true_and] at e2
  rw [← e2]
  exact Nat.zero_testBit k
theorem an_nz {x y : Int32} (h0 : 0 ≤ x.toInt) (h1 : x.toInt < 256) (y0 : 0 ≤ y.toInt) (y1 : y.toInt < 256) (h : ¬ (x &&& y).toInt = 0) : ∃ k, k < 8 ∧ tb x.toInt.toNat k = true ∧ tb y.toInt.toNat k = true := by
  rw [an_i h0 h1 y0 y1] at h
  refine Classical.byContradiction (fun hn => h ?_)
  have q : x.toInt.toNat &&& y.toInt.toNat ≤ x.toInt.toNat := Nat.and_le_left
  have e : x.toInt.toNat &&& y.toInt.toNat = 0 := by
    refine tb_ext (by omega) (by decide) (fun k hk => ?_)
    have e2 : tb (x.toInt.toNat &&& y.toInt.toNat) k = (tb x.toInt.toNat k && tb y.toInt.toNat k) := Nat.testBit_and _ _ _
    rw [e2, show tb 0 k = false from Nat.zero_testBit k]
    cases a : tb x.toInt.toNat k with
    | false => rfl
    | true =>
      cases b : tb y.toInt.toNat k with
      | false => rfl
      | true => exact absurd ⟨k, hk, a, b⟩ hn
  rw [e]
  rfl
theorem allbuy_lp {M N : Mem} {x : Int32} (hG : wGa M N 8) (x0 : 0 ≤ x.toInt) (x1 : x.toInt < 256) : ∀ (n : Nat) {d : Nat} {L : MLoc} {r : Option Value} {M1 : Mem} {i : Int32}, mLd L 0 = some (.ref 138) → mLd L 1 = some (.int x) → mLd L 2 = some (.int i) → 0 ≤ i.toInt → i.toInt ≤ 8 → (∀ i', i' < i.toInt.toNat → tb x.toInt.toNat i' = true → wPr M i' ≠ 0 ∧ ∀ j, j < 8 → tb x.toInt.toNat j = true → wWd (wDy M) (wEn M) (wHe M) i' j = false) → En n d 99 2 L [] N r M1 → M1 = N ∧ ((r = some (.int 1) ∧ wAl M x.toInt.toNat) ∨ (r = some (.int 0) ∧ ¬ wAl M x.toInt.toNat)) := by
  intro n
  induction n with
  | zero => intro d L r M1 i _ _ _ _ _ _ h; exact (En.zero (mi := 99) (pc := 2) (len := 1) rfl h).elim
  | succ n ih =>
    intro d L r M1 i l0 l1 l2 i0 i8 hI h
    have hS := hG.1
    have ei : i.toInt < 8 → (i + 1).toInt = i.toInt + 1 := fun _ => i32_inc i0 (by omega)
    have en : i.toInt < 8 → (i + 1).toInt.toNat = i.toInt.toNat + 1 := fun q => by rw [ei q]; omega
    have ep : iv N 140 i.toInt.toNat = iv M 140 i.toInt.toNat := hG.2.1.si (by omega)
    replace h := eIloadS (mi := 99) (pc := 2) (len := 1) (i := 2) rfl l2 h
    replace h := eConst (mi := 99) (pc := 3) (len := 2) (v := 8) rfl h
    rcases eIc (mi := 99) (pc := 5) (len := 3) (t := 44) rfl rfl h with ⟨c1, h⟩ | ⟨c1, h⟩
    · replace c1 : ¬ i.toInt < 8 := mC_ge.1 c1
      replace h := eConst (mi := 99) (pc := 44) (len := 1) (v := 1) rfl h
      obtain ⟨e1, e2⟩ := eRetI (mi := 99) (pc := 45) (len := 1) rfl h
      refine ⟨e2, Or.inl ⟨e1, fun k hk hb => hI k (by omega) hb⟩⟩
    · replace c1 : i.toInt < 8 := mC_ge.2 c1
      replace h := eIload (mi := 99) (pc := 8) (len := 1) (i := 1) rfl l1 h
      replace h := eIload (mi := 99) (pc := 9) (len := 1) (i := 2) rfl l2 h
      replace h := eShr (mi := 99) (pc := 10) (len := 1) rfl h
      replace h := eConst (mi := 99) (pc := 11) (len := 1) (v := 1) rfl h
      replace h := eAnd (mi := 99) (pc := 12) (len := 1) rfl h
      rcases eIf (mi := 99) (pc := 13) (len := 3) (t := 38) rfl rfl h with ⟨c2, h⟩ | ⟨c2, h⟩
      · replace c2 : ((x >>> (i &&& 31)) &&& (1 : Int32)).toInt = 0 := mC_eq.1 c2
        replace h := eIinc (mi := 99) (pc := 38) (len := 3) (i := 2) (k := 1) rfl l2 (by decide) h
        replace h := eGoto (mi := 99) (pc := 41) (len := 3) (t := 2) rfl rfl h
        refine ih (i := i + 1) (mLd_st1_ref (by decide) l0) (mLd_st1_int (by decide) l1) mLd_st1_i (by omega) (by omega) ?_ h
        rw [en (by omega)]
        intro k hk hb
        by_cases ck : k = i.toInt.toNat
        · subst ck
          rw [bt_f x0 x1 i0 (by omega) c2] at hb
          cases hb
        · exact hI k (by omega) hb
      · replace c2 : ¬ ((x >>> (i &&& 31)) &&& (1 : Int32)).toInt = 0 := mC_eq.2 c2
        replace h := eAload (mi := 99) (pc := 16) (len := 1) (i := 0) rfl l0 h
        replace h := eGetR (a := 138) (j := 701) (g := 140) hS (by decide) (by decide) rfl rfl rfl (mi := 99) (pc := 17) (len := 3) rfl h
        replace h := eIload (mi := 99) (pc := 20) (len := 1) (i := 2) rfl l2 h
        obtain ⟨b3, h⟩ := eIald (x := i) hS (a := 140) (by decide) (by decide) rfl (mi := 99) (pc := 21) (len := 1) rfl h
        rcases eIf (mi := 99) (pc := 22) (len := 3) (t := 36) rfl rfl h with ⟨c4, h⟩ | ⟨c4, h⟩
        · replace c4 : (iv N 140 i.toInt.toNat).toInt = 0 := mC_eq.1 c4
          replace h := eConst (mi := 99) (pc := 36) (len := 1) (v := 0) rfl h
          obtain ⟨e1, e2⟩ := eRetI (mi := 99) (pc := 37) (len := 1) rfl h
          refine ⟨e2, Or.inr ⟨e1, fun ha => ?_⟩⟩
          have hb := bt_t x0 x1 i0 (by omega) c2
          have q := ha i.toInt.toNat (by omega) hb
          rw [ep] at c4
          exact q.1 c4
        · replace c4 : ¬ (iv N 140 i.toInt.toNat).toInt = 0 := mC_eq.2 c4
          replace h := eIload (mi := 99) (pc := 25) (len := 1) (i := 1) rfl l1 h
          replace h := eAload (mi := 99) (pc := 26) (len := 1) (i := 0) rfl l0 h
          replace h := eGetR (a := 138) (j := 704) (g := 151) hS (by decide) (by decide) rfl rfl rfl (mi := 99) (pc := 27) (len := 3) rfl h
          replace h := eIload (mi := 99) (pc := 30) (len := 1) (i := 2) rfl l2 h
          obtain ⟨b5, h⟩ := eIald (x := i) hS (a := 151) (by decide) (by decide) rfl (mi := 99) (pc := 31) (len := 1) rfl h
          replace h := eAnd (mi := 99) (pc := 32) (len := 1) rfl h
          rcases eIf (mi := 99) (pc := 33) (len := 3) (t := 38) rfl rfl h with ⟨c6, h⟩ | ⟨c6, h⟩
          · replace c6 : (x &&& (iv N 151 i.toInt.toNat)).toInt = 0 := mC_eq.1 c6
            replace h := eIinc (mi := 99) (pc := 38) (len := 3) (i := 2) (k := 1) rfl l2 (by decide) h
            replace h := eGoto (mi := 99) (pc := 41) (len := 3) (t := 2) rfl rfl h
            refine ih (i := i + 1) (mLd_st1_ref (by decide) l0) (mLd_st1_int (by decide) l1) mLd_st1_i (by omega) (by omega) ?_ h
            rw [en (by omega)]
            intro k hk hb
            by_cases ck : k = i.toInt.toNat
            · subst ck
              obtain ⟨w0, w1, w2⟩ := hG.2.2 i.toInt.toNat (by omega)
              rw [ep] at c4
              refine ⟨c4, fun j hj hb2 => ?_⟩
              have q := an_z x0 x1 w0 w1 c6 j hj hb2
              rw [w2 j hj, decide_eq_true hj, Bool.true_and] at q
              exact q
            · exact hI k (by omega) hb
          · replace c6 : ¬ (x &&& (iv N 151 i.toInt.toNat)).toInt = 0 := mC_eq.2 c6
            replace h := eConst (mi := 99) (pc := 36) (len := 1) (v := 0) rfl h
            obtain ⟨e1, e2⟩ := eRetI (mi := 99) (pc := 37) (len := 1) rfl h
            refine ⟨e2, Or.inr ⟨e1, fun ha => ?_⟩⟩
            have hb := bt_t x0 x1 i0 (by omega) c2
            have q := ha i.toInt.toNat (by omega) hb
            obtain ⟨w0, w1, w2⟩ := hG.2.2 i.toInt.toNat (by omega)
            obtain ⟨k, hk, a, b⟩ := an_nz x0 x1 w0 w1 c6
            rw [w2 k hk, decide_eq_true hk, Bool.true_and, q.2 k hk a] at b
            cases b
theorem allbuy_en {M N : Mem} {x : Int32} (hG : wGa M N 8) (x0 : 0 ≤ x.toInt) (x1 : x.toInt < 256) {n d : Nat} {r : Option Value} {M1 : Mem} (h : En n d 99 0 (lv_args 0 [.ref 138, .int x]) [] N r M1) : M1 = N ∧ ((r = some (.int 1) ∧ wAl M x.toInt.toNat) ∨ (r = some (.int 0) ∧ ¬ wAl M x.toInt.toNat)) := by
  have hS := hG.1
  replace h := eConst (mi := 99) (pc := 0) (len := 1) (v := 0) rfl h
  replace h := eIstore (mi := 99) (pc := 1) (len := 1) (i := 2) rfl (by decide) h
  exact allbuy_lp hG x0 x1 n (i := 0) rfl rfl rfl (Int.le_refl 0) (by decide) (fun k hk => absurd hk (Nat.not_lt_zero k)) h
theorem best_lp {M N : Mem} (hp : wOk M) (hG : wGa M N 8) : ∀ (n : Nat) {d : Nat} {L : MLoc} {r : Option Value} {M1 : Mem} {b k : Int32}, mLd L 0 = some (.ref 138) → mLd L 1 = some (.int b) → mLd L 2 = some (.int k) → 0 ≤ k.toInt → k.toInt ≤ 256 → 0 ≤ b.toInt → b.toInt < 256 → wB M k.toInt.toNat b.toInt.toNat → En n d 96 8 L [] N r M1 → M1 = N ∧ ∃ z : Int32, r = some (.int z) ∧ 0 ≤ z.toInt ∧ z.toInt < 256 ∧ wB M 256 z.toInt.toNat := by
  intro n
  induction n with
  | zero => intro d L r M1 b k _ _ _ _ _ _ _ _ h; exact (En.zero (mi := 96) (pc := 8) (len := 1) rfl h).elim
  | succ n ih =>
    intro d L r M1 b k l0 l1 l2 k0 k8 b0 b1 hB h
    have hS := hG.1
    have f := hG.2.1
    have hpN := wOk_fx f hp
    have ei : k.toInt < 256 → (k + 1).toInt = k.toInt + 1 := fun _ => i32_inc k0 (by omega)
    have en : k.toInt < 256 → (k + 1).toInt.toNat = k.toInt.toNat + 1 := fun q => by rw [ei q]; omega
    replace h := eIloadS (mi := 96) (pc := 8) (len := 1) (i := 2) rfl l2 h
    replace h := eConst (mi := 96) (pc := 9) (len := 3) (v := 256) rfl h
    rcases eIc (mi := 96) (pc := 12) (len := 3) (t := 40) rfl rfl h with ⟨c1, h⟩ | ⟨c1, h⟩
    · replace c1 : ¬ k.toInt < 256 := mC_ge.1 c1
      replace h := eIload (mi := 96) (pc := 40) (len := 1) (i := 1) rfl l1 h
      obtain ⟨e1, e2⟩ := eRetI (mi := 96) (pc := 41) (len := 1) rfl h
      refine ⟨e2, b, e1, b0, b1, ?_⟩
      rw [← show k.toInt.toNat = 256 by omega]
      exact hB
    · replace c1 : k.toInt < 256 := mC_ge.2 c1
      replace h := eAload (mi := 96) (pc := 15) (len := 1) (i := 0) rfl l0 h
      replace h := eIload (mi := 96) (pc := 16) (len := 1) (i := 2) rfl l2 h
      obtain ⟨r2, N3, g4, h⟩ := eCall (mi := 96) (pc := 17) (len := 3) (j := 99) (as := [.ref 138, .int k]) (rest := []) rfl (Or.inr (Or.inl rfl)) (by decide) rfl rfl h
      obtain ⟨mr2, alr2⟩ := allbuy_en (x := k) hG k0 (by omega) g4
      rw [mr2] at h
      rcases alr2 with ⟨qr2, ar2⟩ | ⟨qr2, ar2⟩
      · rw [qr2] at h
        rcases eIf (mi := 96) (pc := 20) (len := 3) (t := 34) rfl rfl h with ⟨c5, h⟩ | ⟨c5, h⟩
        · exact absurd c5 (by decide)
        · skip
          replace h := eAload (mi := 96) (pc := 23) (len := 1) (i := 0) rfl l0 h
          replace h := eIload (mi := 96) (pc := 24) (len := 1) (i := 2) rfl l2 h
          replace h := eIload (mi := 96) (pc := 25) (len := 1) (i := 1) rfl l1 h
          obtain ⟨r6, N7, g8, h⟩ := eCall (mi := 96) (pc := 26) (len := 3) (j := 98) (as := [.ref 138, .int k, .int b]) (rest := []) rfl (Or.inr (Or.inl rfl)) (by decide) rfl rfl h
          obtain ⟨mr6, ber6⟩ := better_en (x := k) (y := b) hS hpN k0 (by omega) b0 b1 g8
          rw [mr6] at h
          rw [wPr_fx f] at ber6
          rcases ber6 with ⟨qr6, wr6⟩ | ⟨qr6, wr6⟩
          · rw [qr6] at h
            rcases eIf (mi := 96) (pc := 29) (len := 3) (t := 34) rfl rfl h with ⟨c9, h⟩ | ⟨c9, h⟩
            · exact absurd c9 (by decide)
            · skip
              replace h := eIload (mi := 96) (pc := 32) (len := 1) (i := 2) rfl l2 h
              replace h := eIstore (mi := 96) (pc := 33) (len := 1) (i := 1) rfl (by decide) h
              replace h := eIinc (mi := 96) (pc := 34) (len := 3) (i := 2) (k := 1) rfl (mLd_st1_int (by decide) l2) (by decide) h
              replace h := eGoto (mi := 96) (pc := 37) (len := 3) (t := 8) rfl rfl h
              have hq : k.toInt < 256 := by omega
              refine ih (k := k + 1) (b := k) (mLd_st1_ref (by decide) (mLd_st1_ref (by decide) l0)) (mLd_st1_int (by decide) mLd_st1_i) mLd_st1_i (by omega) (by omega) k0 hq ?_ h
              rw [en hq]
              exact wB_yes hB ar2 wr6
          · rw [qr6] at h
            rcases eIf (mi := 96) (pc := 29) (len := 3) (t := 34) rfl rfl h with ⟨c10, h⟩ | ⟨c10, h⟩
            · skip
              replace h := eIinc (mi := 96) (pc := 34) (len := 3) (i := 2) (k := 1) rfl l2 (by decide) h
              replace h := eGoto (mi := 96) (pc := 37) (len := 3) (t := 8) rfl rfl h
              have hq : k.toInt < 256 := by omega
              refine ih (k := k + 1) (b := b) (mLd_st1_ref (by decide) l0) (mLd_st1_int (by decide) l1) mLd_st1_i (by omega) (by omega) b0 b1 ?_ h
              rw [en hq]
              exact wB_no hB (fun q => wr6 q.2)
            · exact absurd c10 (by decide)
      · rw [qr2] at h
        rcases eIf (mi := 96) (pc := 20) (len := 3) (t := 34) rfl rfl h with ⟨c11, h⟩ | ⟨c11, h⟩
        · skip
          replace h := eIinc (mi := 96) (pc := 34) (len := 3) (i := 2) (k := 1) rfl l2 (by decide) h
          replace h := eGoto (mi := 96) (pc := 37) (len := 3) (t := 8) rfl rfl h
          have hq : k.toInt < 256 := by omega
          refine ih (k := k + 1) (b := b) (mLd_st1_ref (by decide) l0) (mLd_st1_int (by decide) l1) mLd_st1_i (by omega) (by omega) b0 b1 ?_ h
          rw [en hq]
          exact wB_no hB (fun q => ar2 q.1)
        · exact absurd c11 (by decide)
theorem best_en {M : Mem} (hS : Sh M) (hR8 : ∀ i, i < 8 → mSlot M 142 i = some (.ref (143 + i))) (hp : wOk M) {n d : Nat} {r : Option Value} {M1 : Mem} (h : En n d 96 0 (lv_args 0 [.ref 138]) [] M r M1) : Sh M1 ∧ Fx 151 151 M M1 ∧ ∃ z : Int32, r = some (.int z) ∧ 0 ≤ z.toInt ∧ z.toInt < 256 ∧ wB M 256 z.toInt.toNat := by
  replace h := eAload (mi := 96) (pc := 0) (len := 1) (i := 0) rfl rfl h
  obtain ⟨r1, N2, g3, h⟩ := eCall (mi := 96) (pc := 1) (len := 3) (j := 100) (as := [.ref 138]) (rest := []) rfl (Or.inr (Or.inl rfl)) (by decide) rfl rfl h
  obtain ⟨qr1, hG⟩ := gw_en hS hR8 hp g3
  rw [qr1] at h
  replace h := eConst (mi := 96) (pc := 4) (len := 1) (v := 0) rfl h
  replace h := eIstore (mi := 96) (pc := 5) (len := 1) (i := 1) rfl (by decide) h
  replace h := eConst (mi := 96) (pc := 6) (len := 1) (v := 1) rfl h
  replace h := eIstore (mi := 96) (pc := 7) (len := 1) (i := 2) rfl (by decide) h
  obtain ⟨e1, e2⟩ := best_lp hp hG n (b := 0) (k := 1) rfl rfl rfl (by decide) (by decide) (Int.le_refl 0) (by decide) wB_1 h
  rw [e1]
  exact ⟨hG.1, hG.2.1, e2⟩
/-- what widow answers -/
def wRes (M : Mem) (w v : Int32) : Prop := (bIn w 2 = false ∧ v = -1) ∨ (bIn w 2 = true ∧ w.toInt = 0 ∧ ∃ b, b < 256 ∧ wB M 256 b ∧ v.toInt = wG M b) ∨ (bIn w 2 = true ∧ ¬ w.toInt = 0 ∧ ∃ b, b < 256 ∧ wB M 256 b ∧ v.toInt = (b : Int))
theorem wRes_same {M : Mem} {w u v : Int32} (h1 : wRes M w u) (h2 : wRes M w v) : u = v := by
  rcases h1 with ⟨a, e1⟩ | ⟨a, b, s, _, e1, e2⟩ | ⟨a, b, s, _, e1, e2⟩
  · rcases h2 with ⟨_, e2⟩ | ⟨a2, _⟩ | ⟨a2, _⟩
    · rw [e1, e2]
    · rw [a] at a2; cases a2
    · rw [a] at a2; cases a2
  · rcases h2 with ⟨a2, _⟩ | ⟨_, _, t, _, f1, f2⟩ | ⟨_, b2, _⟩
    · rw [a] at a2; cases a2
    · have e := wB_same e1 f1
      subst e
      exact Int32.toInt_inj.mp (e2.trans f2.symm)
    · exact absurd b b2
  · rcases h2 with ⟨a2, _⟩ | ⟨_, b2, _⟩ | ⟨_, _, t, _, f1, f2⟩
    · rw [a] at a2; cases a2
    · exact absurd b2 b
    · have e := wB_same e1 f1
      subst e
      exact Int32.toInt_inj.mp (e2.trans f2.symm)
theorem wRes_fx {M N : Mem} (f : Fx 151 151 M N) {w v : Int32} (h : wRes N w v) : wRes M w v := by
  rcases h with h | ⟨a, b, s, s1, e1, e2⟩ | ⟨a, b, s, s1, e1, e2⟩
  · exact Or.inl h
  · rw [wG_fx f] at e2
    exact Or.inr (Or.inl ⟨a, b, s, s1, wB_fx f e1, e2⟩)
  · exact Or.inr (Or.inr ⟨a, b, s, s1, wB_fx f e1, e2⟩)
theorem widC_en {M : Mem} {w : Int32} (hS : Sh M) (hR8 : ∀ i, i < 8 → mSlot M 142 i = some (.ref (143 + i))) (hp : wOk M) {n d : Nat} {r : Option Value} {M1 : Mem} (h : En n d 138 0 (lv_args 0 [.ref 2, .int w]) [] M r M1) : ∃ v : Int32, r = some (.int v) ∧ wRes M w v ∧ Fx 151 151 M M1 := by
  replace h := eIload (mi := 138) (pc := 0) (len := 1) (i := 1) rfl rfl h
  replace h := eConst (mi := 138) (pc := 1) (len := 1) (v := 2) rfl h
  replace h := eCallP (mi := 138) (pc := 2) (len := 3) (j := 148) (as := [.int w, .int (2 : Int32)]) (rest := []) rfl (Or.inl rfl) (by decide) rfl rfl (fun _ _ _ _ g => bIn_en hS g) h
  rcases eIf (mi := 138) (pc := 5) (len := 3) (t := 10) rfl rfl h with ⟨c1, h⟩ | ⟨c1, h⟩
  · replace c1 : bIn w (2 : Int32) = true := mB_ne.1 c1
    replace h := eAload (mi := 138) (pc := 10) (len := 1) (i := 0) rfl rfl h
    replace h := eGetR (a := 2) (j := 1010) (g := 138) hS (by decide) (by decide) rfl rfl rfl (mi := 138) (pc := 11) (len := 3) rfl h
    obtain ⟨r2, N3, g4, h⟩ := eCall (mi := 138) (pc := 14) (len := 3) (j := 96) (as := [.ref 138]) (rest := []) rfl (Or.inr (Or.inl rfl)) (by decide) rfl rfl h
    obtain ⟨hS1, f1, b, qr2, b0, b1, hB⟩ := best_en hS hR8 hp g4
    rw [qr2] at h
    replace h := eIstore (mi := 138) (pc := 17) (len := 1) (i := 2) rfl (by decide) h
    replace h := eIload (mi := 138) (pc := 18) (len := 1) (i := 1) rfl rfl h
    rcases eIf (mi := 138) (pc := 19) (len := 3) (t := 33) rfl rfl h with ⟨c5, h⟩ | ⟨c5, h⟩
    · replace c5 : ¬ w.toInt = 0 := mC_ne.1 c5
      replace h := eIload (mi := 138) (pc := 33) (len := 1) (i := 2) rfl rfl h
      obtain ⟨e1, e2⟩ := eRetI (mi := 138) (pc := 34) (len := 1) rfl h
      exact ⟨b, e1, Or.inr (Or.inr ⟨c1, c5, b.toInt.toNat, by omega, hB, by omega⟩), by rw [e2]; exact f1⟩
    · replace c5 : w.toInt = 0 := mC_ne.2 c5
      replace h := eAload (mi := 138) (pc := 22) (len := 1) (i := 0) rfl rfl h
      replace h := eGetR (a := 2) (j := 1010) (g := 138) hS1 (by decide) (by decide) rfl rfl rfl (mi := 138) (pc := 23) (len := 3) rfl h
      replace h := eIload (mi := 138) (pc := 26) (len := 1) (i := 2) rfl rfl h
      obtain ⟨r6, N7, g8, h⟩ := eCall (mi := 138) (pc := 27) (len := 3) (j := 97) (as := [.ref 138, .int b]) (rest := []) rfl (Or.inr (Or.inl rfl)) (by decide) rfl rfl h
      obtain ⟨mr6, z, qr6, vz⟩ := gain_en (x := b) hS1 (wOk_fx f1 hp) b0 b1 g8
      rw [qr6, mr6] at h
      replace h := eGoto (mi := 138) (pc := 30) (len := 3) (t := 34) rfl rfl h
      obtain ⟨e1, e2⟩ := eRetI (mi := 138) (pc := 34) (len := 1) rfl h
      refine ⟨z, e1, Or.inr (Or.inl ⟨c1, c5, b.toInt.toNat, by omega, hB, ?_⟩), by rw [e2]; exact f1⟩
      rw [vz, wPr_fx f1]
      rfl
  · replace c1 : bIn w (2 : Int32) = false := mB_ne.2 c1
    replace h := eConst (mi := 138) (pc := 8) (len := 1) (v := (-1)) rfl h
    obtain ⟨e1, e2⟩ := eRetI (mi := 138) (pc := 9) (len := 1) rfl h
    subst e2
    exact ⟨_, e1, Or.inl ⟨c1, rfl⟩, Fx.rf⟩
theorem xM_fx {M N : Mem} (f : Fx 151 151 M N) (h : xM M) : xM N := xM_same (fun c i q => by unfold qM at q; exact f c i (by omega)) h
theorem xM_tb {M : Mem} (hx : xM M) {i : Nat} (hi : i < 8) : tb (iv M 181 59).toInt.toNat i = decide (iv M 140 i ≠ 0) := hx.2.2 i hi
theorem wAh_trans {dy : Nat → Int} {a b c : Nat} (h1 : wAh dy a b = true) (h2 : wAh dy b c = true) : wAh dy a c = true := by
  rw [wAh_iff] at *
  omega
theorem earl_en {M : Mem} {i j : Int32} (hS : Sh M) (hx : xM M) {n d : Nat} {r : Option Value} {M1 : Mem} (h : En n d 263 0 (lv_args 0 [.ref 181, .int i, .int j]) [] M r M1) : r = some (.int (b2 (wAh (wDy M) i.toInt.toNat j.toInt.toNat))) ∧ M1 = M := by
  replace h := eAload (mi := 263) (pc := 0) (len := 1) (i := 0) rfl rfl h
  replace h := eGetR (a := 181) (j := 1160) (g := 223) hS (by decide) (by decide) rfl rfl rfl (mi := 263) (pc := 1) (len := 3) rfl h
  replace h := eIload (mi := 263) (pc := 4) (len := 1) (i := 1) rfl rfl h
  obtain ⟨b1, h⟩ := eIald (x := i) hS (a := 223) (by decide) (by decide) rfl (mi := 263) (pc := 5) (len := 1) rfl h
  replace h := eAload (mi := 263) (pc := 6) (len := 1) (i := 0) rfl rfl h
  replace h := eGetR (a := 181) (j := 1160) (g := 223) hS (by decide) (by decide) rfl rfl rfl (mi := 263) (pc := 7) (len := 3) rfl h
  replace h := eIload (mi := 263) (pc := 10) (len := 1) (i := 2) rfl rfl h
  obtain ⟨b2, h⟩ := eIald (x := j) hS (a := 223) (by decide) (by decide) rfl (mi := 263) (pc := 11) (len := 1) rfl h
  rcases eIc (mi := 263) (pc := 12) (len := 3) (t := 35) rfl rfl h with ⟨c3, h⟩ | ⟨c3, h⟩
  · replace c3 : (iv M 223 i.toInt.toNat).toInt < (iv M 223 j.toInt.toNat).toInt := mC_lt.1 c3
    replace h := eConst (mi := 263) (pc := 35) (len := 1) (v := 1) rfl h
    replace h := eGoto (mi := 263) (pc := 36) (len := 3) (t := 40) rfl rfl h
    obtain ⟨e1, e2⟩ := eRetI (mi := 263) (pc := 40) (len := 1) rfl h
    have hi : 0 ≤ i.toInt ∧ i.toInt.toNat < 8 := b1
    have hj : 0 ≤ j.toInt ∧ j.toInt.toNat < 8 := b2
    try rw [(hx.1 _ hi.2).1, (hx.1 _ hj.2).1] at c3
    have e3 : wAh (wDy M) i.toInt.toNat j.toInt.toNat = true := by
      rw [wAh_iff]
      unfold wDy
      omega
    rw [e3]
    exact ⟨e1, e2⟩
  · replace c3 : ¬ (iv M 223 i.toInt.toNat).toInt < (iv M 223 j.toInt.toNat).toInt := mC_lt.2 c3
    replace h := eAload (mi := 263) (pc := 15) (len := 1) (i := 0) rfl rfl h
    replace h := eGetR (a := 181) (j := 1160) (g := 223) hS (by decide) (by decide) rfl rfl rfl (mi := 263) (pc := 16) (len := 3) rfl h
    replace h := eIload (mi := 263) (pc := 19) (len := 1) (i := 1) rfl rfl h
    obtain ⟨b4, h⟩ := eIald (x := i) hS (a := 223) (by decide) (by decide) rfl (mi := 263) (pc := 20) (len := 1) rfl h
    replace h := eAload (mi := 263) (pc := 21) (len := 1) (i := 0) rfl rfl h
    replace h := eGetR (a := 181) (j := 1160) (g := 223) hS (by decide) (by decide) rfl rfl rfl (mi := 263) (pc := 22) (len := 3) rfl h
    replace h := eIload (mi := 263) (pc := 25) (len := 1) (i := 2) rfl rfl h
    obtain ⟨b5, h⟩ := eIald (x := j) hS (a := 223) (by decide) (by decide) rfl (mi := 263) (pc := 26) (len := 1) rfl h
    rcases eIc (mi := 263) (pc := 27) (len := 3) (t := 39) rfl rfl h with ⟨c6, h⟩ | ⟨c6, h⟩
    · replace c6 : ¬ (iv M 223 i.toInt.toNat).toInt = (iv M 223 j.toInt.toNat).toInt := mC_ne.1 c6
      replace h := eConst (mi := 263) (pc := 39) (len := 1) (v := 0) rfl h
      obtain ⟨e1, e2⟩ := eRetI (mi := 263) (pc := 40) (len := 1) rfl h
      have hi : 0 ≤ i.toInt ∧ i.toInt.toNat < 8 := b1
      have hj : 0 ≤ j.toInt ∧ j.toInt.toNat < 8 := b2
      try rw [(hx.1 _ hi.2).1, (hx.1 _ hj.2).1] at c3
      try rw [(hx.1 _ hi.2).1, (hx.1 _ hj.2).1] at c6
      have e3 : wAh (wDy M) i.toInt.toNat j.toInt.toNat = false := by
        rw [← Bool.not_eq_true]
        intro q
        rw [wAh_iff] at q
        unfold wDy at q
        omega
      rw [e3]
      exact ⟨e1, e2⟩
    · replace c6 : (iv M 223 i.toInt.toNat).toInt = (iv M 223 j.toInt.toNat).toInt := mC_ne.2 c6
      replace h := eIload (mi := 263) (pc := 30) (len := 1) (i := 1) rfl rfl h
      replace h := eIload (mi := 263) (pc := 31) (len := 1) (i := 2) rfl rfl h
      rcases eIc (mi := 263) (pc := 32) (len := 3) (t := 39) rfl rfl h with ⟨c7, h⟩ | ⟨c7, h⟩
      · replace c7 : ¬ i.toInt < j.toInt := mC_ge.1 c7
        replace h := eConst (mi := 263) (pc := 39) (len := 1) (v := 0) rfl h
        obtain ⟨e1, e2⟩ := eRetI (mi := 263) (pc := 40) (len := 1) rfl h
        have hi : 0 ≤ i.toInt ∧ i.toInt.toNat < 8 := b1
        have hj : 0 ≤ j.toInt ∧ j.toInt.toNat < 8 := b2
        try rw [(hx.1 _ hi.2).1, (hx.1 _ hj.2).1] at c3
        try rw [(hx.1 _ hi.2).1, (hx.1 _ hj.2).1] at c6
        try rw [(hx.1 _ hi.2).1, (hx.1 _ hj.2).1] at c7
        have e3 : wAh (wDy M) i.toInt.toNat j.toInt.toNat = false := by
          rw [← Bool.not_eq_true]
          intro q
          rw [wAh_iff] at q
          unfold wDy at q
          omega
        rw [e3]
        exact ⟨e1, e2⟩
      · replace c7 : i.toInt < j.toInt := mC_ge.2 c7
        replace h := eConst (mi := 263) (pc := 35) (len := 1) (v := 1) rfl h
        replace h := eGoto (mi := 263) (pc := 36) (len := 3) (t := 40) rfl rfl h
        obtain ⟨e1, e2⟩ := eRetI (mi := 263) (pc := 40) (len := 1) rfl h
        have hi : 0 ≤ i.toInt ∧ i.toInt.toNat < 8 := b1
        have hj : 0 ≤ j.toInt ∧ j.toInt.toNat < 8 := b2
        try rw [(hx.1 _ hi.2).1, (hx.1 _ hj.2).1] at c3
        try rw [(hx.1 _ hi.2).1, (hx.1 _ hj.2).1] at c6
        try rw [(hx.1 _ hi.2).1, (hx.1 _ hj.2).1] at c7
        have e3 : wAh (wDy M) i.toInt.toNat j.toInt.toNat = true := by
          rw [wAh_iff]
          unfold wDy
          omega
        rw [e3]
        exact ⟨e1, e2⟩
theorem buys_v {M : Mem} {i j : Int32} (hp : wOk M) (hx : xM M) (i0 : 0 ≤ i.toInt) (i8 : i.toInt < 8) (j0 : 0 ≤ j.toInt) (j8 : j.toInt < 8) : (0 ≤ (iv M 223 j.toInt.toNat).toInt ∧ (iv M 223 j.toInt.toNat).toInt ≤ 999) ∧ (0 ≤ (iv M 225 j.toInt.toNat).toInt ∧ (iv M 225 j.toInt.toNat).toInt ≤ 99) ∧ (0 ≤ (iv M 223 i.toInt.toNat).toInt ∧ (iv M 223 i.toInt.toNat).toInt ≤ 999) ∧ (-100 ≤ (iv M 226 (8 * i + j).toInt.toNat).toInt ∧ (iv M 226 (8 * i + j).toInt.toNat).toInt ≤ 0) ∧ (wWr (wDy M) (wEn M) (wHe M) i.toInt.toNat j.toInt.toNat = true ↔ ((iv M 226 (8 * i + j).toInt.toNat).toInt + 100 < 100 ∧ (iv M 223 j.toInt.toNat).toInt + ((iv M 226 (8 * i + j).toInt.toNat).toInt + 100) ≤ (iv M 223 i.toInt.toNat).toInt) ∨ (iv M 223 j.toInt.toNat).toInt + (iv M 225 j.toInt.toNat).toInt ≤ (iv M 223 i.toInt.toNat).toInt) := by
  have e8 : (8 * i : Int32).toInt = 8 * i.toInt := i32_mul (x := 8) (by show -2147483648 ≤ 8 * i.toInt; omega) (by show 8 * i.toInt ≤ _; omega)
  have e9 : (8 * i + j).toInt = 8 * i.toInt + j.toInt := by rw [i32_add (by omega) (by omega), e8]
  rw [show (8 * i + j).toInt.toNat = 8 * i.toInt.toNat + j.toInt.toNat by omega]
  obtain ⟨a1, _, a3, _⟩ := hx.1 j.toInt.toNat (by omega)
  obtain ⟨b1, _, _, b4⟩ := hx.1 i.toInt.toNat (by omega)
  have b4 := b4 j.toInt.toNat (by omega)
  obtain ⟨_, ⟨dj0, dj1⟩, ⟨nj0, nj1⟩, _⟩ := hp j.toInt.toNat (by omega)
  obtain ⟨_, ⟨di0, di1⟩, _, hh⟩ := hp i.toInt.toNat (by omega)
  obtain ⟨h0, h1⟩ := hh j.toInt.toNat (by omega)
  rw [a1, a3, b1]
  unfold wDy at dj0 dj1 di0 di1
  unfold wEn at nj0 nj1
  unfold wHe at h0 h1
  refine ⟨by omega, by omega, by omega, by omega, ?_⟩
  unfold wWr wDy wEn wHe
  simp only [Bool.and_eq_true, Bool.or_eq_true, decide_eq_true_iff]
  omega
theorem buys_lp {M : Mem} {i x : Int32} (hS : Sh M) (hp : wOk M) (hx : xM M) (i0 : 0 ≤ i.toInt) (i8 : i.toInt < 8) (x0 : 0 ≤ x.toInt) (x1 : x.toInt < 256) : ∀ (n : Nat) {d : Nat} {L : MLoc} {r : Option Value} {M1 : Mem} {j : Int32}, mLd L 0 = some (.ref 181) → mLd L 1 = some (.int i) → mLd L 2 = some (.int x) → mLd L 3 = some (.int j) → 0 ≤ j.toInt → j.toInt ≤ 8 → (∀ k, k < j.toInt.toNat → tb x.toInt.toNat k = true → wWr (wDy M) (wEn M) (wHe M) i.toInt.toNat k = false) → En n d 264 2 L [] M r M1 → M1 = M ∧ ((r = some (.int 1) ∧ ∀ k, k < 8 → tb x.toInt.toNat k = true → wWr (wDy M) (wEn M) (wHe M) i.toInt.toNat k = false) ∨ (r = some (.int 0) ∧ ∃ k, k < 8 ∧ tb x.toInt.toNat k = true ∧ wWr (wDy M) (wEn M) (wHe M) i.toInt.toNat k = true)) := by
  intro n
  induction n with
  | zero => intro d L r M1 j _ _ _ _ _ _ _ h; exact (En.zero (mi := 264) (pc := 2) (len := 1) rfl h).elim
  | succ n ih =>
    intro d L r M1 j l0 l1 l2 l3 j0 j8 hI h
    have ej : j.toInt < 8 → (j + 1).toInt = j.toInt + 1 := fun _ => i32_inc j0 (by omega)
    have en : j.toInt < 8 → (j + 1).toInt.toNat = j.toInt.toNat + 1 := fun q => by rw [ej q]; omega
    replace h := eIloadS (mi := 264) (pc := 2) (len := 1) (i := 3) rfl l3 h
    replace h := eConst (mi := 264) (pc := 3) (len := 2) (v := 8) rfl h
    rcases eIc (mi := 264) (pc := 5) (len := 3) (t := 92) rfl rfl h with ⟨c1, h⟩ | ⟨c1, h⟩
    · replace c1 : ¬ j.toInt < 8 := mC_ge.1 c1
      replace h := eConst (mi := 264) (pc := 92) (len := 1) (v := 1) rfl h
      obtain ⟨e1, e2⟩ := eRetI (mi := 264) (pc := 93) (len := 1) rfl h
      exact ⟨e2, Or.inl ⟨e1, fun k hk hb => hI k (by omega) hb⟩⟩
    · replace c1 : j.toInt < 8 := mC_ge.2 c1
      replace h := eIload (mi := 264) (pc := 8) (len := 1) (i := 2) rfl l2 h
      replace h := eIload (mi := 264) (pc := 9) (len := 1) (i := 3) rfl l3 h
      replace h := eShr (mi := 264) (pc := 10) (len := 1) rfl h
      replace h := eConst (mi := 264) (pc := 11) (len := 1) (v := 1) rfl h
      replace h := eAnd (mi := 264) (pc := 12) (len := 1) rfl h
      rcases eIf (mi := 264) (pc := 13) (len := 3) (t := 19) rfl rfl h with ⟨c2, h⟩ | ⟨c2, h⟩
      · replace c2 : ¬ ((x >>> (j &&& 31)) &&& (1 : Int32)).toInt = 0 := mC_ne.1 c2
        replace h := eAload (mi := 264) (pc := 19) (len := 1) (i := 0) rfl l0 h
        replace h := eGetR (a := 181) (j := 1160) (g := 223) hS (by decide) (by decide) rfl rfl rfl (mi := 264) (pc := 20) (len := 3) rfl h
        replace h := eIload (mi := 264) (pc := 23) (len := 1) (i := 3) rfl l3 h
        obtain ⟨b3, h⟩ := eIald (x := j) hS (a := 223) (by decide) (by decide) rfl (mi := 264) (pc := 24) (len := 1) rfl h
        replace h := eAload (mi := 264) (pc := 25) (len := 1) (i := 0) rfl l0 h
        replace h := eGetR (a := 181) (j := 1162) (g := 225) hS (by decide) (by decide) rfl rfl rfl (mi := 264) (pc := 26) (len := 3) rfl h
        replace h := eIload (mi := 264) (pc := 29) (len := 1) (i := 3) rfl l3 h
        obtain ⟨b4, h⟩ := eIald (x := j) hS (a := 225) (by decide) (by decide) rfl (mi := 264) (pc := 30) (len := 1) rfl h
        replace h := eAdd (mi := 264) (pc := 31) (len := 1) rfl h
        replace h := eAload (mi := 264) (pc := 32) (len := 1) (i := 0) rfl l0 h
        replace h := eGetR (a := 181) (j := 1160) (g := 223) hS (by decide) (by decide) rfl rfl rfl (mi := 264) (pc := 33) (len := 3) rfl h
        replace h := eIload (mi := 264) (pc := 36) (len := 1) (i := 1) rfl l1 h
        obtain ⟨b5, h⟩ := eIald (x := i) hS (a := 223) (by decide) (by decide) rfl (mi := 264) (pc := 37) (len := 1) rfl h
        rcases eIc (mi := 264) (pc := 38) (len := 3) (t := 43) rfl rfl h with ⟨c6, h⟩ | ⟨c6, h⟩
        · replace c6 : (iv M 223 i.toInt.toNat).toInt < ((iv M 223 j.toInt.toNat) + (iv M 225 j.toInt.toNat)).toInt := mC_gt.1 c6
          replace h := eAload (mi := 264) (pc := 43) (len := 1) (i := 0) rfl l0 h
          replace h := eGetR (a := 181) (j := 1163) (g := 226) hS (by decide) (by decide) rfl rfl rfl (mi := 264) (pc := 44) (len := 3) rfl h
          replace h := eConst (mi := 264) (pc := 47) (len := 2) (v := 8) rfl h
          replace h := eIload (mi := 264) (pc := 49) (len := 1) (i := 1) rfl l1 h
          replace h := eMul (mi := 264) (pc := 50) (len := 1) rfl h
          replace h := eIload (mi := 264) (pc := 51) (len := 1) (i := 3) rfl l3 h
          replace h := eAdd (mi := 264) (pc := 52) (len := 1) rfl h
          obtain ⟨b7, h⟩ := eIald (x := (((8 : Int32) * i) + j)) hS (a := 226) (by decide) (by decide) rfl (mi := 264) (pc := 53) (len := 1) rfl h
          replace h := eConst (mi := 264) (pc := 54) (len := 2) (v := 100) rfl h
          replace h := eAdd (mi := 264) (pc := 56) (len := 1) rfl h
          replace h := eIstore (mi := 264) (pc := 57) (len := 2) (i := 4) rfl (by decide) h
          replace h := eIload (mi := 264) (pc := 59) (len := 2) (i := 4) rfl mLd_st1_i h
          replace h := eConst (mi := 264) (pc := 61) (len := 2) (v := 100) rfl h
          rcases eIc (mi := 264) (pc := 63) (len := 3) (t := 86) rfl rfl h with ⟨c8, h⟩ | ⟨c8, h⟩
          · replace c8 : ¬ ((iv M 226 (((8 : Int32) * i) + j).toInt.toNat) + (100 : Int32)).toInt < 100 := mC_ge.1 c8
            replace h := eIinc (mi := 264) (pc := 86) (len := 3) (i := 3) (k := 1) rfl (mLd_st1_int (by decide) l3) (by decide) h
            replace h := eGoto (mi := 264) (pc := 89) (len := 3) (t := 2) rfl rfl h
            refine ih (j := j + 1) (mLd_st1_ref (by decide) (mLd_st1_ref (by decide) l0)) (mLd_st1_int (by decide) (mLd_st1_int (by decide) l1)) (mLd_st1_int (by decide) (mLd_st1_int (by decide) l2)) mLd_st1_i (by omega) (by omega) ?_ h
            rw [en (by omega)]
            intro k hk hb
            by_cases ck : k = j.toInt.toNat
            · subst ck
              obtain ⟨ba, bb, bc, bh, iw⟩ := buys_v hp hx i0 i8 j0 (show j.toInt < 8 by omega)
              have s1 : ((iv M 223 j.toInt.toNat) + (iv M 225 j.toInt.toNat)).toInt = (iv M 223 j.toInt.toNat).toInt + (iv M 225 j.toInt.toNat).toInt := i32_add (by omega) (by omega)
              have s2 : ((iv M 226 (8 * i + j).toInt.toNat) + 100).toInt = (iv M 226 (8 * i + j).toInt.toNat).toInt + 100 := i32_add (y := 100) (by show -2147483648 ≤ (iv M 226 (8 * i + j).toInt.toNat).toInt + 100; omega) (by show (iv M 226 (8 * i + j).toInt.toNat).toInt + 100 ≤ _; omega)
              have s3 : ((iv M 223 j.toInt.toNat) + ((iv M 226 (8 * i + j).toInt.toNat) + 100)).toInt = (iv M 223 j.toInt.toNat).toInt + ((iv M 226 (8 * i + j).toInt.toNat).toInt + 100) := by rw [i32_add (by omega) (by omega), s2]
              try rw [s1] at c6
              try rw [s3] at c6
              try rw [s2] at c6
              try rw [s1] at c8
              try rw [s3] at c8
              try rw [s2] at c8
              rw [← Bool.not_eq_true]
              intro q
              rw [iw] at q
              omega
            · exact hI k (by omega) hb
          · replace c8 : ((iv M 226 (((8 : Int32) * i) + j).toInt.toNat) + (100 : Int32)).toInt < 100 := mC_ge.2 c8
            replace h := eAload (mi := 264) (pc := 66) (len := 1) (i := 0) rfl (mLd_st1_ref (by decide) l0) h
            replace h := eGetR (a := 181) (j := 1160) (g := 223) hS (by decide) (by decide) rfl rfl rfl (mi := 264) (pc := 67) (len := 3) rfl h
            replace h := eIload (mi := 264) (pc := 70) (len := 1) (i := 3) rfl (mLd_st1_int (by decide) l3) h
            obtain ⟨b9, h⟩ := eIald (x := j) hS (a := 223) (by decide) (by decide) rfl (mi := 264) (pc := 71) (len := 1) rfl h
            replace h := eIload (mi := 264) (pc := 72) (len := 2) (i := 4) rfl mLd_st1_i h
            replace h := eAdd (mi := 264) (pc := 74) (len := 1) rfl h
            replace h := eAload (mi := 264) (pc := 75) (len := 1) (i := 0) rfl (mLd_st1_ref (by decide) l0) h
            replace h := eGetR (a := 181) (j := 1160) (g := 223) hS (by decide) (by decide) rfl rfl rfl (mi := 264) (pc := 76) (len := 3) rfl h
            replace h := eIload (mi := 264) (pc := 79) (len := 1) (i := 1) rfl (mLd_st1_int (by decide) l1) h
            obtain ⟨b10, h⟩ := eIald (x := i) hS (a := 223) (by decide) (by decide) rfl (mi := 264) (pc := 80) (len := 1) rfl h
            rcases eIc (mi := 264) (pc := 81) (len := 3) (t := 86) rfl rfl h with ⟨c11, h⟩ | ⟨c11, h⟩
            · replace c11 : (iv M 223 i.toInt.toNat).toInt < ((iv M 223 j.toInt.toNat) + ((iv M 226 (((8 : Int32) * i) + j).toInt.toNat) + (100 : Int32))).toInt := mC_gt.1 c11
              replace h := eIinc (mi := 264) (pc := 86) (len := 3) (i := 3) (k := 1) rfl (mLd_st1_int (by decide) l3) (by decide) h
              replace h := eGoto (mi := 264) (pc := 89) (len := 3) (t := 2) rfl rfl h
              refine ih (j := j + 1) (mLd_st1_ref (by decide) (mLd_st1_ref (by decide) l0)) (mLd_st1_int (by decide) (mLd_st1_int (by decide) l1)) (mLd_st1_int (by decide) (mLd_st1_int (by decide) l2)) mLd_st1_i (by omega) (by omega) ?_ h
              rw [en (by omega)]
              intro k hk hb
              by_cases ck : k = j.toInt.toNat
              · subst ck
                obtain ⟨ba, bb, bc, bh, iw⟩ := buys_v hp hx i0 i8 j0 (show j.toInt < 8 by omega)
                have s1 : ((iv M 223 j.toInt.toNat) + (iv M 225 j.toInt.toNat)).toInt = (iv M 223 j.toInt.toNat).toInt + (iv M 225 j.toInt.toNat).toInt := i32_add (by omega) (by omega)
                have s2 : ((iv M 226 (8 * i + j).toInt.toNat) + 100).toInt = (iv M 226 (8 * i + j).toInt.toNat).toInt + 100 := i32_add (y := 100) (by show -2147483648 ≤ (iv M 226 (8 * i + j).toInt.toNat).toInt + 100; omega) (by show (iv M 226 (8 * i + j).toInt.toNat).toInt + 100 ≤ _; omega)
                have s3 : ((iv M 223 j.toInt.toNat) + ((iv M 226 (8 * i + j).toInt.toNat) + 100)).toInt = (iv M 223 j.toInt.toNat).toInt + ((iv M 226 (8 * i + j).toInt.toNat).toInt + 100) := by rw [i32_add (by omega) (by omega), s2]
                try rw [s1] at c6
                try rw [s3] at c6
                try rw [s2] at c6
                try rw [s1] at c8
                try rw [s3] at c8
                try rw [s2] at c8
                try rw [s1] at c11
                try rw [s3] at c11
                try rw [s2] at c11
                rw [← Bool.not_eq_true]
                intro q
                rw [iw] at q
                omega
              · exact hI k (by omega) hb
            · replace c11 : ¬ (iv M 223 i.toInt.toNat).toInt < ((iv M 223 j.toInt.toNat) + ((iv M 226 (((8 : Int32) * i) + j).toInt.toNat) + (100 : Int32))).toInt := mC_gt.2 c11
              replace h := eConst (mi := 264) (pc := 84) (len := 1) (v := 0) rfl h
              obtain ⟨e1, e2⟩ := eRetI (mi := 264) (pc := 85) (len := 1) rfl h
              obtain ⟨ba, bb, bc, bh, iw⟩ := buys_v hp hx i0 i8 j0 (show j.toInt < 8 by omega)
              have s1 : ((iv M 223 j.toInt.toNat) + (iv M 225 j.toInt.toNat)).toInt = (iv M 223 j.toInt.toNat).toInt + (iv M 225 j.toInt.toNat).toInt := i32_add (by omega) (by omega)
              have s2 : ((iv M 226 (8 * i + j).toInt.toNat) + 100).toInt = (iv M 226 (8 * i + j).toInt.toNat).toInt + 100 := i32_add (y := 100) (by show -2147483648 ≤ (iv M 226 (8 * i + j).toInt.toNat).toInt + 100; omega) (by show (iv M 226 (8 * i + j).toInt.toNat).toInt + 100 ≤ _; omega)
              have s3 : ((iv M 223 j.toInt.toNat) + ((iv M 226 (8 * i + j).toInt.toNat) + 100)).toInt = (iv M 223 j.toInt.toNat).toInt + ((iv M 226 (8 * i + j).toInt.toNat).toInt + 100) := by rw [i32_add (by omega) (by omega), s2]
              try rw [s1] at c6
              try rw [s3] at c6
              try rw [s2] at c6
              try rw [s1] at c8
              try rw [s3] at c8
              try rw [s2] at c8
              try rw [s1] at c11
              try rw [s3] at c11
              try rw [s2] at c11
              exact ⟨e2, Or.inr ⟨e1, j.toInt.toNat, by omega, bt_t x0 x1 j0 (by omega) c2, iw.mpr (by omega)⟩⟩
        · replace c6 : ¬ (iv M 223 i.toInt.toNat).toInt < ((iv M 223 j.toInt.toNat) + (iv M 225 j.toInt.toNat)).toInt := mC_gt.2 c6
          replace h := eConst (mi := 264) (pc := 41) (len := 1) (v := 0) rfl h
          obtain ⟨e1, e2⟩ := eRetI (mi := 264) (pc := 42) (len := 1) rfl h
          obtain ⟨ba, bb, bc, bh, iw⟩ := buys_v hp hx i0 i8 j0 (show j.toInt < 8 by omega)
          have s1 : ((iv M 223 j.toInt.toNat) + (iv M 225 j.toInt.toNat)).toInt = (iv M 223 j.toInt.toNat).toInt + (iv M 225 j.toInt.toNat).toInt := i32_add (by omega) (by omega)
          have s2 : ((iv M 226 (8 * i + j).toInt.toNat) + 100).toInt = (iv M 226 (8 * i + j).toInt.toNat).toInt + 100 := i32_add (y := 100) (by show -2147483648 ≤ (iv M 226 (8 * i + j).toInt.toNat).toInt + 100; omega) (by show (iv M 226 (8 * i + j).toInt.toNat).toInt + 100 ≤ _; omega)
          have s3 : ((iv M 223 j.toInt.toNat) + ((iv M 226 (8 * i + j).toInt.toNat) + 100)).toInt = (iv M 223 j.toInt.toNat).toInt + ((iv M 226 (8 * i + j).toInt.toNat).toInt + 100) := by rw [i32_add (by omega) (by omega), s2]
          try rw [s1] at c6
          try rw [s3] at c6
          try rw [s2] at c6
          exact ⟨e2, Or.inr ⟨e1, j.toInt.toNat, by omega, bt_t x0 x1 j0 (by omega) c2, iw.mpr (by omega)⟩⟩
      · replace c2 : ((x >>> (j &&& 31)) &&& (1 : Int32)).toInt = 0 := mC_ne.2 c2
        replace h := eGoto (mi := 264) (pc := 16) (len := 3) (t := 86) rfl rfl h
        replace h := eIinc (mi := 264) (pc := 86) (len := 3) (i := 3) (k := 1) rfl l3 (by decide) h
        replace h := eGoto (mi := 264) (pc := 89) (len := 3) (t := 2) rfl rfl h
        refine ih (j := j + 1) (mLd_st1_ref (by decide) l0) (mLd_st1_int (by decide) l1) (mLd_st1_int (by decide) l2) mLd_st1_i (by omega) (by omega) ?_ h
        rw [en (by omega)]
        intro k hk hb
        by_cases ck : k = j.toInt.toNat
        · subst ck
          rw [bt_f x0 x1 j0 (by omega) c2] at hb
          cases hb
        · exact hI k (by omega) hb
theorem buys_en {M : Mem} {i x : Int32} (hS : Sh M) (hp : wOk M) (hx : xM M) (i0 : 0 ≤ i.toInt) (i8 : i.toInt < 8) (x0 : 0 ≤ x.toInt) (x1 : x.toInt < 256) {n d : Nat} {r : Option Value} {M1 : Mem} (h : En n d 264 0 (lv_args 0 [.ref 181, .int i, .int x]) [] M r M1) : M1 = M ∧ ((r = some (.int 1) ∧ ∀ k, k < 8 → tb x.toInt.toNat k = true → wWr (wDy M) (wEn M) (wHe M) i.toInt.toNat k = false) ∨ (r = some (.int 0) ∧ ∃ k, k < 8 ∧ tb x.toInt.toNat k = true ∧ wWr (wDy M) (wEn M) (wHe M) i.toInt.toNat k = true)) := by
  replace h := eConst (mi := 264) (pc := 0) (len := 1) (v := 0) rfl h
  replace h := eIstore (mi := 264) (pc := 1) (len := 1) (i := 3) rfl (by decide) h
  exact buys_lp hS hp hx i0 i8 x0 x1 n (j := 0) rfl rfl rfl rfl (Int.le_refl 0) (by decide) (fun k hk => absurd hk (Nat.not_lt_zero k)) h
theorem bt_1 {x k : Int32} (h0 : 0 ≤ x.toInt) (h1 : x.toInt < 256) (k0 : 0 ≤ k.toInt) (k1 : k.toInt < 8) (h : ((x >>> (k &&& 31)) &&& (1 : Int32)).toInt = 1) : tb x.toInt.toNat k.toInt.toNat = true := by
  refine bt_t h0 h1 k0 k1 (fun q => ?_)
  rw [q] at h
  exact absurd h (by decide)
theorem bt_0 {x k : Int32} (h0 : 0 ≤ x.toInt) (h1 : x.toInt < 256) (k0 : 0 ≤ k.toInt) (k1 : k.toInt < 8) (h : ¬ ((x >>> (k &&& 31)) &&& (1 : Int32)).toInt = 1) : tb x.toInt.toNat k.toInt.toNat = false := by
  rw [bt_i h0 h1 k0 k1] at h
  cases hq : tb x.toInt.toNat k.toInt.toNat with
  | false => rfl
  | true =>
    rw [hq] at h
    exact absurd (show ((if true = true then (1 : Int32) else 0)).toInt = 1 by decide) h
theorem next_lp {M : Mem} {x g : Int32} (hS : Sh M) (hx : xM M) (x0 : 0 ≤ x.toInt) (x1 : x.toInt < 256) (g0 : 0 ≤ g.toInt) (g1 : g.toInt < 256) : ∀ (n : Nat) {d : Nat} {L : MLoc} {r : Option Value} {M1 : Mem} {bb i : Int32}, mLd L 0 = some (.ref 181) → mLd L 1 = some (.int x) → mLd L 2 = some (.int g) → mLd L 3 = some (.int bb) → mLd L 4 = some (.int i) → 0 ≤ i.toInt → i.toInt ≤ 8 → ((bb.toInt = -1 ∧ ∀ k, k < i.toInt.toNat → tb x.toInt.toNat k = true → tb g.toInt.toNat k = true) ∨ ((0 ≤ bb.toInt ∧ bb.toInt.toNat < i.toInt.toNat) ∧ tb x.toInt.toNat bb.toInt.toNat = true ∧ tb g.toInt.toNat bb.toInt.toNat = false ∧ ∀ k, k < i.toInt.toNat → tb x.toInt.toNat k = true → tb g.toInt.toNat k = false → k ≠ bb.toInt.toNat → wAh (wDy M) bb.toInt.toNat k = true)) → En n d 265 5 L [] M r M1 → M1 = M ∧ ∃ z : Int32, r = some (.int z) ∧ ((z.toInt = -1 ∧ ∀ k, k < 8 → tb x.toInt.toNat k = true → tb g.toInt.toNat k = true) ∨ ((0 ≤ z.toInt ∧ z.toInt.toNat < 8) ∧ tb x.toInt.toNat z.toInt.toNat = true ∧ tb g.toInt.toNat z.toInt.toNat = false ∧ ∀ k, k < 8 → tb x.toInt.toNat k = true → tb g.toInt.toNat k = false → k ≠ z.toInt.toNat → wAh (wDy M) z.toInt.toNat k = true)) := by
  intro n
  induction n with
  | zero => intro d L r M1 bb i _ _ _ _ _ _ _ _ h; exact (En.zero (mi := 265) (pc := 5) (len := 2) rfl h).elim
  | succ n ih =>
    intro d L r M1 bb i l0 l1 l2 l3 l4 i0 i8 hI h
    have ei : i.toInt < 8 → (i + 1).toInt = i.toInt + 1 := fun _ => i32_inc i0 (by omega)
    have en : i.toInt < 8 → (i + 1).toInt.toNat = i.toInt.toNat + 1 := fun q => by rw [ei q]; omega
    replace h := eIloadS (mi := 265) (pc := 5) (len := 2) (i := 4) rfl l4 h
    replace h := eConst (mi := 265) (pc := 7) (len := 2) (v := 8) rfl h
    rcases eIc (mi := 265) (pc := 9) (len := 3) (t := 55) rfl rfl h with ⟨c1, h⟩ | ⟨c1, h⟩
    · replace c1 : ¬ i.toInt < 8 := mC_ge.1 c1
      replace h := eIload (mi := 265) (pc := 55) (len := 1) (i := 3) rfl l3 h
      obtain ⟨e1, e2⟩ := eRetI (mi := 265) (pc := 56) (len := 1) rfl h
      refine ⟨e2, bb, e1, ?_⟩
      rw [← show i.toInt.toNat = 8 by omega]
      exact hI
    · replace c1 : i.toInt < 8 := mC_ge.2 c1
      replace h := eIload (mi := 265) (pc := 12) (len := 1) (i := 1) rfl l1 h
      replace h := eIload (mi := 265) (pc := 13) (len := 2) (i := 4) rfl l4 h
      replace h := eShr (mi := 265) (pc := 15) (len := 1) rfl h
      replace h := eConst (mi := 265) (pc := 16) (len := 1) (v := 1) rfl h
      replace h := eAnd (mi := 265) (pc := 17) (len := 1) rfl h
      replace h := eConst (mi := 265) (pc := 18) (len := 1) (v := 1) rfl h
      rcases eIc (mi := 265) (pc := 19) (len := 3) (t := 49) rfl rfl h with ⟨c2, h⟩ | ⟨c2, h⟩
      · replace c2 : ¬ ((x >>> (i &&& 31)) &&& (1 : Int32)).toInt = 1 := mC_ne.1 c2
        replace h := eIinc (mi := 265) (pc := 49) (len := 3) (i := 4) (k := 1) rfl l4 (by decide) h
        replace h := eGoto (mi := 265) (pc := 52) (len := 3) (t := 5) rfl rfl h
        have hi : i.toInt < 8 := by omega
        refine ih (i := i + 1) (bb := bb) (mLd_st1_ref (by decide) l0) (mLd_st1_int (by decide) l1) (mLd_st1_int (by decide) l2) (mLd_st1_int (by decide) l3) mLd_st1_i (by omega) (by omega) ?_ h
        rw [en hi]
        have hn : ¬ (tb x.toInt.toNat i.toInt.toNat = true ∧ tb g.toInt.toNat i.toInt.toNat = false) := fun q => by rw [bt_0 x0 x1 i0 hi c2] at q; cases q.1
        rcases hI with ⟨a, b⟩ | ⟨a, b, c, d⟩
        · refine Or.inl ⟨a, fun k hk hb => ?_⟩
          by_cases ck : k = i.toInt.toNat
          · subst ck
            cases hq : tb g.toInt.toNat i.toInt.toNat with
            | true => rfl
            | false => exact absurd ⟨hb, hq⟩ hn
          · exact b k (by omega) hb
        · refine Or.inr ⟨⟨a.1, by omega⟩, b, c, fun k hk h1 h2 h3 => ?_⟩
          by_cases ck : k = i.toInt.toNat
          · subst ck
            exact absurd ⟨h1, h2⟩ hn
          · exact d k (by omega) h1 h2 h3
      · replace c2 : ((x >>> (i &&& 31)) &&& (1 : Int32)).toInt = 1 := mC_ne.2 c2
        replace h := eIload (mi := 265) (pc := 22) (len := 1) (i := 2) rfl l2 h
        replace h := eIload (mi := 265) (pc := 23) (len := 2) (i := 4) rfl l4 h
        replace h := eShr (mi := 265) (pc := 25) (len := 1) rfl h
        replace h := eConst (mi := 265) (pc := 26) (len := 1) (v := 1) rfl h
        replace h := eAnd (mi := 265) (pc := 27) (len := 1) rfl h
        rcases eIf (mi := 265) (pc := 28) (len := 3) (t := 49) rfl rfl h with ⟨c3, h⟩ | ⟨c3, h⟩
        · replace c3 : ¬ ((g >>> (i &&& 31)) &&& (1 : Int32)).toInt = 0 := mC_ne.1 c3
          replace h := eIinc (mi := 265) (pc := 49) (len := 3) (i := 4) (k := 1) rfl l4 (by decide) h
          replace h := eGoto (mi := 265) (pc := 52) (len := 3) (t := 5) rfl rfl h
          have hi : i.toInt < 8 := by omega
          refine ih (i := i + 1) (bb := bb) (mLd_st1_ref (by decide) l0) (mLd_st1_int (by decide) l1) (mLd_st1_int (by decide) l2) (mLd_st1_int (by decide) l3) mLd_st1_i (by omega) (by omega) ?_ h
          rw [en hi]
          have hn : ¬ (tb x.toInt.toNat i.toInt.toNat = true ∧ tb g.toInt.toNat i.toInt.toNat = false) := fun q => by rw [bt_t g0 g1 i0 hi c3] at q; cases q.2
          rcases hI with ⟨a, b⟩ | ⟨a, b, c, d⟩
          · refine Or.inl ⟨a, fun k hk hb => ?_⟩
            by_cases ck : k = i.toInt.toNat
            · subst ck
              cases hq : tb g.toInt.toNat i.toInt.toNat with
              | true => rfl
              | false => exact absurd ⟨hb, hq⟩ hn
            · exact b k (by omega) hb
          · refine Or.inr ⟨⟨a.1, by omega⟩, b, c, fun k hk h1 h2 h3 => ?_⟩
            by_cases ck : k = i.toInt.toNat
            · subst ck
              exact absurd ⟨h1, h2⟩ hn
            · exact d k (by omega) h1 h2 h3
        · replace c3 : ((g >>> (i &&& 31)) &&& (1 : Int32)).toInt = 0 := mC_ne.2 c3
          replace h := eIload (mi := 265) (pc := 31) (len := 1) (i := 3) rfl l3 h
          replace h := eConst (mi := 265) (pc := 32) (len := 1) (v := (-1)) rfl h
          rcases eIc (mi := 265) (pc := 33) (len := 3) (t := 46) rfl rfl h with ⟨c4, h⟩ | ⟨c4, h⟩
          · replace c4 : bb.toInt = (-1) := mC_eq.1 c4
            replace h := eIload (mi := 265) (pc := 46) (len := 2) (i := 4) rfl l4 h
            replace h := eIstore (mi := 265) (pc := 48) (len := 1) (i := 3) rfl (by decide) h
            replace h := eIinc (mi := 265) (pc := 49) (len := 3) (i := 4) (k := 1) rfl (mLd_st1_int (by decide) l4) (by decide) h
            replace h := eGoto (mi := 265) (pc := 52) (len := 3) (t := 5) rfl rfl h
            have hi : i.toInt < 8 := by omega
            refine ih (i := i + 1) (bb := i) (mLd_st1_ref (by decide) (mLd_st1_ref (by decide) l0)) (mLd_st1_int (by decide) (mLd_st1_int (by decide) l1)) (mLd_st1_int (by decide) (mLd_st1_int (by decide) l2)) (mLd_st1_int (by decide) mLd_st1_i) mLd_st1_i (by omega) (by omega) ?_ h
            rw [en hi]
            have hxi := bt_1 x0 x1 i0 hi c2
            have hgi := bt_f g0 g1 i0 hi c3
            try rw [show (-1 : Int32).toInt = -1 from rfl] at c4
            refine Or.inr ⟨⟨i0, by omega⟩, hxi, hgi, fun k hk h1 h2 h3 => ?_⟩
            rcases hI with ⟨a, b⟩ | ⟨a, b, c, d⟩
            · have q := b k (by omega) h1
              rw [h2] at q
              cases q
            · omega
          · replace c4 : ¬ bb.toInt = (-1) := mC_eq.2 c4
            replace h := eAload (mi := 265) (pc := 36) (len := 1) (i := 0) rfl l0 h
            replace h := eIload (mi := 265) (pc := 37) (len := 2) (i := 4) rfl l4 h
            replace h := eIload (mi := 265) (pc := 39) (len := 1) (i := 3) rfl l3 h
            obtain ⟨r5, N6, g7, h⟩ := eCall (mi := 265) (pc := 40) (len := 3) (j := 263) (as := [.ref 181, .int i, .int bb]) (rest := []) rfl (Or.inr (Or.inl rfl)) (by decide) rfl rfl h
            obtain ⟨qr5, mr5⟩ := earl_en (i := i) (j := bb) hS hx g7
            rw [qr5, mr5] at h
            rcases eIf (mi := 265) (pc := 43) (len := 3) (t := 49) rfl rfl h with ⟨c8, h⟩ | ⟨c8, h⟩
            · replace c8 : wAh (wDy M) i.toInt.toNat bb.toInt.toNat = false := mB_eq.1 c8
              replace h := eIinc (mi := 265) (pc := 49) (len := 3) (i := 4) (k := 1) rfl l4 (by decide) h
              replace h := eGoto (mi := 265) (pc := 52) (len := 3) (t := 5) rfl rfl h
              have hi : i.toInt < 8 := by omega
              refine ih (i := i + 1) (bb := bb) (mLd_st1_ref (by decide) l0) (mLd_st1_int (by decide) l1) (mLd_st1_int (by decide) l2) (mLd_st1_int (by decide) l3) mLd_st1_i (by omega) (by omega) ?_ h
              rw [en hi]
              have hxi := bt_1 x0 x1 i0 hi c2
              have hgi := bt_f g0 g1 i0 hi c3
              try rw [show (-1 : Int32).toInt = -1 from rfl] at c4
              rcases hI with ⟨a, b⟩ | ⟨a, b, c, d⟩
              · exact absurd a c4
              · refine Or.inr ⟨⟨a.1, by omega⟩, b, c, fun k hk h1 h2 h3 => ?_⟩
                by_cases ck : k = i.toInt.toNat
                · rw [ck]; exact wAh_tot (by omega) c8
                · exact d k (by omega) h1 h2 h3
            · replace c8 : wAh (wDy M) i.toInt.toNat bb.toInt.toNat = true := mB_eq.2 c8
              replace h := eIload (mi := 265) (pc := 46) (len := 2) (i := 4) rfl l4 h
              replace h := eIstore (mi := 265) (pc := 48) (len := 1) (i := 3) rfl (by decide) h
              replace h := eIinc (mi := 265) (pc := 49) (len := 3) (i := 4) (k := 1) rfl (mLd_st1_int (by decide) l4) (by decide) h
              replace h := eGoto (mi := 265) (pc := 52) (len := 3) (t := 5) rfl rfl h
              have hi : i.toInt < 8 := by omega
              refine ih (i := i + 1) (bb := i) (mLd_st1_ref (by decide) (mLd_st1_ref (by decide) l0)) (mLd_st1_int (by decide) (mLd_st1_int (by decide) l1)) (mLd_st1_int (by decide) (mLd_st1_int (by decide) l2)) (mLd_st1_int (by decide) mLd_st1_i) mLd_st1_i (by omega) (by omega) ?_ h
              rw [en hi]
              have hxi := bt_1 x0 x1 i0 hi c2
              have hgi := bt_f g0 g1 i0 hi c3
              try rw [show (-1 : Int32).toInt = -1 from rfl] at c4
              refine Or.inr ⟨⟨i0, by omega⟩, hxi, hgi, fun k hk h1 h2 h3 => ?_⟩
              rcases hI with ⟨a, b⟩ | ⟨a, b, c, d⟩
              · have q := b k (by omega) h1
                rw [h2] at q
                cases q
              · by_cases ck : k = bb.toInt.toNat
                · rw [ck]; exact c8
                · exact wAh_trans c8 (d k (by omega) h1 h2 ck)
theorem next_en {M : Mem} {x g : Int32} (hS : Sh M) (hx : xM M) (x0 : 0 ≤ x.toInt) (x1 : x.toInt < 256) (g0 : 0 ≤ g.toInt) (g1 : g.toInt < 256) {n d : Nat} {r : Option Value} {M1 : Mem} (h : En n d 265 0 (lv_args 0 [.ref 181, .int x, .int g]) [] M r M1) : M1 = M ∧ ∃ z : Int32, r = some (.int z) ∧ ((z.toInt = -1 ∧ ∀ k, k < 8 → tb x.toInt.toNat k = true → tb g.toInt.toNat k = true) ∨ ((0 ≤ z.toInt ∧ z.toInt.toNat < 8) ∧ tb x.toInt.toNat z.toInt.toNat = true ∧ tb g.toInt.toNat z.toInt.toNat = false ∧ ∀ k, k < 8 → tb x.toInt.toNat k = true → tb g.toInt.toNat k = false → k ≠ z.toInt.toNat → wAh (wDy M) z.toInt.toNat k = true)) := by
  replace h := eConst (mi := 265) (pc := 0) (len := 1) (v := (-1)) rfl h
  replace h := eIstore (mi := 265) (pc := 1) (len := 1) (i := 3) rfl (by decide) h
  replace h := eConst (mi := 265) (pc := 2) (len := 1) (v := 0) rfl h
  replace h := eIstore (mi := 265) (pc := 3) (len := 2) (i := 4) rfl (by decide) h
  exact next_lp hS hx x0 x1 g0 g1 n (bb := -1) (i := 0) rfl rfl rfl rfl rfl (Int.le_refl 0) (by decide) (Or.inl ⟨rfl, fun k hk => absurd hk (Nat.not_lt_zero k)⟩) h
theorem wRun_congr {dy pr en : Nat → Int} {he : Nat → Nat → Int} {S G T G' T' : Nat → Bool} (h : wRun dy pr en he S G T) (hg : ∀ k, k < 8 → G' k = G k) (ht : ∀ k, k < 8 → T' k = T k) : wRun dy pr en he S G' T' := by
  obtain ⟨h1, h2, h3, h4, h5⟩ := h
  refine ⟨fun i hi q => h1 i hi (by rw [← hg i hi]; exact q), fun i hi q => by rw [hg i hi]; exact h2 i hi (by rw [← ht i hi]; exact q), fun i j hi hj a b c => h3 i j hi hj (by rw [← hg i hi]; exact a) b (by rw [← hg j hj]; exact c), fun i j hi hj a b => h4 i j hi hj (by rw [← ht i hi]; exact a) (by rw [← ht j hj]; exact b), fun ha i hi => by rw [ht i hi, hg i hi]; exact h5 ha i hi⟩
theorem wGain_ins {pr : Nat → Int} {A B : Nat → Bool} {i : Nat} (hB : ∀ k, k < 8 → B k = (A k || decide (k = i))) (hi : A i = false) : ∀ {n : Nat}, n ≤ 8 → wGain pr B n = wGain pr A n + (if i < n then pr i else 0)
  | 0, _ => by rw [if_neg (Nat.not_lt_zero i)]; rfl
  | n + 1, hn => by
    have q := wGain_ins (pr := pr) hB hi (n := n) (by omega)
    unfold wGain
    rw [q, hB n (by omega)]
    by_cases c : n = i
    · subst c
      rw [hi, if_neg (show ¬ n < n by omega), if_pos (show n < n + 1 by omega), decide_eq_true rfl, Bool.or_true, if_pos rfl, if_neg (by decide)]
      all_goals omega
    · rw [decide_eq_false c, Bool.or_false]
      by_cases c2 : i < n
      · rw [if_pos c2, if_pos (show i < n + 1 by omega)]
        omega
      · rw [if_neg c2, if_neg (show ¬ i < n + 1 by omega)]
        omega
theorem gets_lp {M : Mem} {x : Int32} (hS : Sh M) (hp : wOk M) (hx : xM M) (x0 : 0 ≤ x.toInt) (x1 : x.toInt < 256) (hP : ∀ i, i < 8 → tb x.toInt.toNat i = true → wPr M i ≠ 0) : ∀ (n : Nat) {d : Nat} {L : MLoc} {r : Option Value} {M1 : Mem} {t g y z : Int32}, mLd L 0 = some (.ref 181) → mLd L 1 = some (.int x) → mLd L 2 = some (.int t) → mLd L 3 = some (.int g) → mLd L 4 = some (.int y) → mLd L 5 = some (.int z) → (0 ≤ t.toInt ∧ t.toInt < 256) → (0 ≤ g.toInt ∧ g.toInt < 256) → wRun (wDy M) (wPr M) (wEn M) (wHe M) (tb x.toInt.toNat) (tb g.toInt.toNat) (tb t.toInt.toNat) → y.toInt = wG M t.toInt.toNat → ((z.toInt = -1 ∧ ∀ k, k < 8 → tb x.toInt.toNat k = true → tb g.toInt.toNat k = true) ∨ ((0 ≤ z.toInt ∧ z.toInt.toNat < 8) ∧ tb x.toInt.toNat z.toInt.toNat = true ∧ tb g.toInt.toNat z.toInt.toNat = false ∧ ∀ k, k < 8 → tb x.toInt.toNat k = true → tb g.toInt.toNat k = false → k ≠ z.toInt.toNat → wAh (wDy M) z.toInt.toNat k = true)) → En n d 266 15 L [] M r M1 → M1 = M ∧ ∃ (v : Int32) (T : Nat), r = some (.int v) ∧ T < 256 ∧ v.toInt = wG M T ∧ wAl M T ∧ (∀ i, i < 8 → tb T i = true → tb x.toInt.toNat i = true) ∧ (wAl M x.toInt.toNat → T = x.toInt.toNat) := by
  intro n
  induction n with
  | zero => intro d L r M1 t g y z _ _ _ _ _ _ _ _ _ _ _ h; exact (En.zero (mi := 266) (pc := 15) (len := 2) rfl h).elim
  | succ n ih =>
    intro d L r M1 t g y z l0 l1 l2 l3 l4 l5 ht hg hR hy hI h
    have hm1 : (-1 : Int32).toInt = -1 := rfl
    replace h := eIloadS (mi := 266) (pc := 15) (len := 2) (i := 5) rfl l5 h
    replace h := eConst (mi := 266) (pc := 17) (len := 1) (v := (-1)) rfl h
    rcases eIc (mi := 266) (pc := 18) (len := 3) (t := 71) rfl rfl h with ⟨c1, h⟩ | ⟨c1, h⟩
    · replace c1 : z.toInt = (-1) := mC_eq.1 c1
      replace h := eIload (mi := 266) (pc := 71) (len := 2) (i := 4) rfl l4 h
      obtain ⟨e1, e2⟩ := eRetI (mi := 266) (pc := 73) (len := 1) rfl h
      have ha : ∀ k, k < 8 → tb x.toInt.toNat k = true → tb g.toInt.toNat k = true := by
        rcases hI with ⟨_, a⟩ | ⟨q, _⟩
        · exact a
        · omega
      obtain ⟨w1, w2, w3⟩ := wRun_end hR ha hP
      exact ⟨e2, y, t.toInt.toNat, e1, by omega, hy, w1, w2, fun q => tb_ext (by omega) (by omega) (w3 q)⟩
    · replace c1 : ¬ z.toInt = (-1) := mC_eq.2 c1
      replace h := eIload (mi := 266) (pc := 21) (len := 1) (i := 3) rfl l3 h
      replace h := eConst (mi := 266) (pc := 22) (len := 1) (v := 1) rfl h
      replace h := eIload (mi := 266) (pc := 23) (len := 2) (i := 5) rfl l5 h
      replace h := eShl (mi := 266) (pc := 25) (len := 1) rfl h
      replace h := eOr (mi := 266) (pc := 26) (len := 1) rfl h
      replace h := eIstore (mi := 266) (pc := 27) (len := 1) (i := 3) rfl (by decide) h
      replace h := eAload (mi := 266) (pc := 28) (len := 1) (i := 0) rfl (mLd_st1_ref (by decide) l0) h
      replace h := eIload (mi := 266) (pc := 29) (len := 2) (i := 5) rfl (mLd_st1_int (by decide) l5) h
      replace h := eIload (mi := 266) (pc := 31) (len := 1) (i := 2) rfl (mLd_st1_int (by decide) l2) h
      obtain ⟨r2, N3, g4, h⟩ := eCall (mi := 266) (pc := 32) (len := 3) (j := 264) (as := [.ref 181, .int z, .int t]) (rest := []) rfl (Or.inr (Or.inl rfl)) (by decide) rfl rfl h
      have zz : (0 ≤ z.toInt ∧ z.toInt.toNat < 8) ∧ tb x.toInt.toNat z.toInt.toNat = true ∧ tb g.toInt.toNat z.toInt.toNat = false ∧ ∀ k, k < 8 → tb x.toInt.toNat k = true → tb g.toInt.toNat k = false → k ≠ z.toInt.toNat → wAh (wDy M) z.toInt.toNat k = true := by
        rcases hI with ⟨a, _⟩ | q
        · exact absurd a c1
        · exact q
      obtain ⟨⟨z0, z8⟩, zx, zg, zl⟩ := zz
      have z9 : z.toInt < 8 := by omega
      obtain ⟨gg0, gg1, gg2⟩ := bo_i (x := g) (k := z) hg.1 hg.2 z0 z9
      obtain ⟨tt0, tt1, tt2⟩ := bo_i (x := t) (k := z) ht.1 ht.2 z0 z9
      obtain ⟨ok, no⟩ := wRun_step (i := z.toInt.toNat) hR z8 zx zg (fun j hj a b c => zl j hj a b c)
      obtain ⟨mr2, bur2⟩ := buys_en (i := z) (x := t) hS hp hx z0 z9 ht.1 ht.2 g4
      rw [mr2] at h
      rcases bur2 with ⟨qr2, wr2⟩ | ⟨qr2, wr2⟩
      · rw [qr2] at h
        rcases eIf (mi := 266) (pc := 35) (len := 3) (t := 41) rfl rfl h with ⟨c5, h⟩ | ⟨c5, h⟩
        · skip
          replace h := eIload (mi := 266) (pc := 41) (len := 1) (i := 2) rfl (mLd_st1_int (by decide) l2) h
          replace h := eConst (mi := 266) (pc := 42) (len := 1) (v := 1) rfl h
          replace h := eIload (mi := 266) (pc := 43) (len := 2) (i := 5) rfl (mLd_st1_int (by decide) l5) h
          replace h := eShl (mi := 266) (pc := 45) (len := 1) rfl h
          replace h := eOr (mi := 266) (pc := 46) (len := 1) rfl h
          replace h := eIstore (mi := 266) (pc := 47) (len := 1) (i := 2) rfl (by decide) h
          replace h := eIload (mi := 266) (pc := 48) (len := 2) (i := 4) rfl (mLd_st1_int (by decide) (mLd_st1_int (by decide) l4)) h
          replace h := eAload (mi := 266) (pc := 50) (len := 1) (i := 0) rfl (mLd_st1_ref (by decide) (mLd_st1_ref (by decide) l0)) h
          replace h := eGetR (a := 181) (j := 1161) (g := 224) hS (by decide) (by decide) rfl rfl rfl (mi := 266) (pc := 51) (len := 3) rfl h
          replace h := eIload (mi := 266) (pc := 54) (len := 2) (i := 5) rfl (mLd_st1_int (by decide) (mLd_st1_int (by decide) l5)) h
          obtain ⟨b6, h⟩ := eIald (x := z) hS (a := 224) (by decide) (by decide) rfl (mi := 266) (pc := 56) (len := 1) rfl h
          replace h := eAdd (mi := 266) (pc := 57) (len := 1) rfl h
          replace h := eIstore (mi := 266) (pc := 58) (len := 2) (i := 4) rfl (by decide) h
          replace h := eAload (mi := 266) (pc := 60) (len := 1) (i := 0) rfl (mLd_st1_ref (by decide) (mLd_st1_ref (by decide) (mLd_st1_ref (by decide) l0))) h
          replace h := eIload (mi := 266) (pc := 61) (len := 1) (i := 1) rfl (mLd_st1_int (by decide) (mLd_st1_int (by decide) (mLd_st1_int (by decide) l1))) h
          replace h := eIload (mi := 266) (pc := 62) (len := 1) (i := 3) rfl (mLd_st1_int (by decide) (mLd_st1_int (by decide) mLd_st1_i)) h
          obtain ⟨r7, N8, g9, h⟩ := eCall (mi := 266) (pc := 63) (len := 3) (j := 265) (as := [.ref 181, .int x, .int (g ||| ((1 : Int32) <<< (z &&& 31)))]) (rest := []) rfl (Or.inr (Or.inl rfl)) (by decide) rfl rfl h
          obtain ⟨mr7, zr7, qr7, ir7⟩ := next_en (x := x) (g := (g ||| ((1 : Int32) <<< (z &&& 31)))) hS hx x0 x1 gg0 gg1 g9
          rw [qr7, mr7] at h
          replace h := eIstore (mi := 266) (pc := 66) (len := 2) (i := 5) rfl (by decide) h
          replace h := eGoto (mi := 266) (pc := 68) (len := 3) (t := 15) rfl rfl h
          have hti : tb t.toInt.toNat z.toInt.toNat = false := by
            cases hq : tb t.toInt.toNat z.toInt.toNat with
            | false => rfl
            | true => rw [hR.2.1 _ z8 hq] at zg; cases zg
          have hga : wG M (t ||| ((1 : Int32) <<< (z &&& 31))).toInt.toNat = wG M t.toInt.toNat + wPr M z.toInt.toNat := by
            have q := wGain_ins (pr := wPr M) (A := tb t.toInt.toNat) (B := tb (t ||| ((1 : Int32) <<< (z &&& 31))).toInt.toNat) (i := z.toInt.toNat) tt2 hti (n := 8) (Nat.le_refl 8)
            rw [if_pos z8] at q
            exact q
          have bt := wGain_b hp (A := tb t.toInt.toNat) (k := 8) (Nat.le_refl 8)
          have bp := (hp _ z8).1
          have hyt : 0 ≤ y.toInt ∧ y.toInt ≤ 79992 := by rw [hy]; unfold wG; omega
          have e4 : (iv M 224 z.toInt.toNat).toInt = wPr M z.toInt.toNat := by rw [(hx.1 _ z8).2.1]; rfl
          refine ih (t := (t ||| ((1 : Int32) <<< (z &&& 31)))) (g := (g ||| ((1 : Int32) <<< (z &&& 31)))) (y := y + iv M 224 z.toInt.toNat) (mLd_st1_ref (by decide) (mLd_st1_ref (by decide) (mLd_st1_ref (by decide) (mLd_st1_ref (by decide) l0)))) (mLd_st1_int (by decide) (mLd_st1_int (by decide) (mLd_st1_int (by decide) (mLd_st1_int (by decide) l1)))) (mLd_st1_int (by decide) (mLd_st1_int (by decide) mLd_st1_i)) (mLd_st1_int (by decide) (mLd_st1_int (by decide) (mLd_st1_int (by decide) mLd_st1_i))) (mLd_st1_int (by decide) mLd_st1_i) mLd_st1_i ⟨tt0, tt1⟩ ⟨gg0, gg1⟩ (wRun_congr (ok wr2) gg2 tt2) ?_ ir7 h
          rw [i32_add (by omega) (by omega), e4, hga, hy]
        · exact absurd c5 (by decide)
      · rw [qr2] at h
        rcases eIf (mi := 266) (pc := 35) (len := 3) (t := 41) rfl rfl h with ⟨c10, h⟩ | ⟨c10, h⟩
        · exact absurd c10 (by decide)
        · skip
          replace h := eGoto (mi := 266) (pc := 38) (len := 3) (t := 60) rfl rfl h
          replace h := eAload (mi := 266) (pc := 60) (len := 1) (i := 0) rfl (mLd_st1_ref (by decide) l0) h
          replace h := eIload (mi := 266) (pc := 61) (len := 1) (i := 1) rfl (mLd_st1_int (by decide) l1) h
          replace h := eIload (mi := 266) (pc := 62) (len := 1) (i := 3) rfl mLd_st1_i h
          obtain ⟨r11, N12, g13, h⟩ := eCall (mi := 266) (pc := 63) (len := 3) (j := 265) (as := [.ref 181, .int x, .int (g ||| ((1 : Int32) <<< (z &&& 31)))]) (rest := []) rfl (Or.inr (Or.inl rfl)) (by decide) rfl rfl h
          obtain ⟨mr11, zr11, qr11, ir11⟩ := next_en (x := x) (g := (g ||| ((1 : Int32) <<< (z &&& 31)))) hS hx x0 x1 gg0 gg1 g13
          rw [qr11, mr11] at h
          replace h := eIstore (mi := 266) (pc := 66) (len := 2) (i := 5) rfl (by decide) h
          replace h := eGoto (mi := 266) (pc := 68) (len := 3) (t := 15) rfl rfl h
          exact ih (t := t) (g := (g ||| ((1 : Int32) <<< (z &&& 31)))) (y := y) (mLd_st1_ref (by decide) (mLd_st1_ref (by decide) l0)) (mLd_st1_int (by decide) (mLd_st1_int (by decide) l1)) (mLd_st1_int (by decide) (mLd_st1_int (by decide) l2)) (mLd_st1_int (by decide) mLd_st1_i) (mLd_st1_int (by decide) (mLd_st1_int (by decide) l4)) mLd_st1_i ht ⟨gg0, gg1⟩ (wRun_congr (no wr2) gg2 (fun _ _ => rfl)) hy ir11 h
theorem gets_en {M : Mem} {x : Int32} (hS : Sh M) (hp : wOk M) (hx : xM M) (x0 : 0 ≤ x.toInt) (x1 : x.toInt < 256) (hP : ∀ i, i < 8 → tb x.toInt.toNat i = true → wPr M i ≠ 0) {n d : Nat} {r : Option Value} {M1 : Mem} (h : En n d 266 0 (lv_args 0 [.ref 181, .int x]) [] M r M1) : M1 = M ∧ ∃ (v : Int32) (T : Nat), r = some (.int v) ∧ T < 256 ∧ v.toInt = wG M T ∧ wAl M T ∧ (∀ i, i < 8 → tb T i = true → tb x.toInt.toNat i = true) ∧ (wAl M x.toInt.toNat → T = x.toInt.toNat) := by
  replace h := eConst (mi := 266) (pc := 0) (len := 1) (v := 0) rfl h
  replace h := eIstore (mi := 266) (pc := 1) (len := 1) (i := 2) rfl (by decide) h
  replace h := eConst (mi := 266) (pc := 2) (len := 1) (v := 0) rfl h
  replace h := eIstore (mi := 266) (pc := 3) (len := 1) (i := 3) rfl (by decide) h
  replace h := eConst (mi := 266) (pc := 4) (len := 1) (v := 0) rfl h
  replace h := eIstore (mi := 266) (pc := 5) (len := 2) (i := 4) rfl (by decide) h
  replace h := eAload (mi := 266) (pc := 7) (len := 1) (i := 0) rfl rfl h
  replace h := eIload (mi := 266) (pc := 8) (len := 1) (i := 1) rfl rfl h
  replace h := eIload (mi := 266) (pc := 9) (len := 1) (i := 3) rfl rfl h
  obtain ⟨r1, N2, g3, h⟩ := eCall (mi := 266) (pc := 10) (len := 3) (j := 265) (as := [.ref 181, .int x, .int (0 : Int32)]) (rest := []) rfl (Or.inr (Or.inl rfl)) (by decide) rfl rfl h
  obtain ⟨mr1, zr1, qr1, ir1⟩ := next_en (x := x) (g := (0 : Int32)) hS hx x0 x1 (Int.le_refl 0) (by decide) g3
  rw [qr1, mr1] at h
  replace h := eIstore (mi := 266) (pc := 13) (len := 2) (i := 5) rfl (by decide) h
  have r0 : wRun (wDy M) (wPr M) (wEn M) (wHe M) (tb x.toInt.toNat) (tb (0 : Int32).toInt.toNat) (tb (0 : Int32).toInt.toNat) := wRun_congr wRun_0 (fun k _ => Nat.zero_testBit k) (fun k _ => Nat.zero_testBit k)
  have g0 : (0 : Int32).toInt = wG M (0 : Int32).toInt.toNat := by
    have q : ∀ n, n ≤ 8 → wGain (wPr M) (tb 0) n = 0 := by
      intro n
      induction n with
      | zero => intro _; rfl
      | succ n ih =>
        intro hn
        unfold wGain
        rw [ih (by omega), show tb 0 n = false from Nat.zero_testBit n, if_neg (by decide)]
        rfl
    exact (q 8 (Nat.le_refl 8)).symm
  exact gets_lp hS hp hx x0 x1 hP n (t := 0) (g := 0) (y := 0) rfl rfl rfl rfl rfl rfl ⟨Int.le_refl 0, by decide⟩ ⟨Int.le_refl 0, by decide⟩ r0 g0 ir1 h
def rBs (x : Int32) : Nat → Int32
  | 0 => 0
  | k + 1 => rBs x k + ((x >>> (Int32.ofNat k &&& 31)) &&& (1 : Int32))
set_option maxRecDepth 100000 in
theorem rBs_n : ∀ x, x < 256 → (rBs (Int32.ofNat x) 14).toInt = (pc8 x : Int) := by decide +kernel
theorem rbits_lp {M : Mem} {x : Int32} : ∀ (n : Nat) {d : Nat} {L : MLoc} {r : Option Value} {M1 : Mem} {y k : Int32}, mLd L 0 = some (.int x) → mLd L 1 = some (.int y) → mLd L 2 = some (.int k) → 0 ≤ k.toInt → k.toInt ≤ 14 → y = rBs x k.toInt.toNat → En n d 183 4 L [] M r M1 → r = some (.int (rBs x 14)) ∧ M1 = M := by
  intro n
  induction n with
  | zero => intro d L r M1 y k _ _ _ _ _ _ h; exact (En.zero (mi := 183) (pc := 4) (len := 1) rfl h).elim
  | succ n ih =>
    intro d L r M1 y k l0 l1 l2 k0 k8 hy h
    have ek : k.toInt < 14 → (k + 1).toInt = k.toInt + 1 := fun _ => i32_inc k0 (by omega)
    have en : k.toInt < 14 → (k + 1).toInt.toNat = k.toInt.toNat + 1 := fun q => by rw [ek q]; omega
    replace h := eIloadS (mi := 183) (pc := 4) (len := 1) (i := 2) rfl l2 h
    replace h := eConst (mi := 183) (pc := 5) (len := 2) (v := 14) rfl h
    rcases eIc (mi := 183) (pc := 7) (len := 3) (t := 24) rfl rfl h with ⟨c1, h⟩ | ⟨c1, h⟩
    · replace c1 : ¬ k.toInt < 14 := mC_ge.1 c1
      replace h := eIload (mi := 183) (pc := 24) (len := 1) (i := 1) rfl l1 h
      obtain ⟨e1, e2⟩ := eRetI (mi := 183) (pc := 25) (len := 1) rfl h
      rw [e1, hy, show k.toInt.toNat = 14 by omega]
      exact ⟨rfl, e2⟩
    · replace c1 : k.toInt < 14 := mC_ge.2 c1
      replace h := eIload (mi := 183) (pc := 10) (len := 1) (i := 1) rfl l1 h
      replace h := eIload (mi := 183) (pc := 11) (len := 1) (i := 0) rfl l0 h
      replace h := eIload (mi := 183) (pc := 12) (len := 1) (i := 2) rfl l2 h
      replace h := eShr (mi := 183) (pc := 13) (len := 1) rfl h
      replace h := eConst (mi := 183) (pc := 14) (len := 1) (v := 1) rfl h
      replace h := eAnd (mi := 183) (pc := 15) (len := 1) rfl h
      replace h := eAdd (mi := 183) (pc := 16) (len := 1) rfl h
      replace h := eIstore (mi := 183) (pc := 17) (len := 1) (i := 1) rfl (by decide) h
      replace h := eIinc (mi := 183) (pc := 18) (len := 3) (i := 2) (k := 1) rfl (mLd_st1_int (by decide) l2) (by decide) h
      replace h := eGoto (mi := 183) (pc := 21) (len := 3) (t := 4) rfl rfl h
      refine ih (k := k + 1) (mLd_st1_int (by decide) (mLd_st1_int (by decide) l0)) (mLd_st1_int (by decide) mLd_st1_i) mLd_st1_i (by omega) (by omega) ?_ h
      rw [en (by omega)]
      show _ = rBs x k.toInt.toNat + ((x >>> (Int32.ofNat k.toInt.toNat &&& 31)) &&& (1 : Int32))
      rw [← i32_of k0, hy]
      rfl
theorem rbits_en {M : Mem} {x : Int32} (x0 : 0 ≤ x.toInt) (x1 : x.toInt < 256) {n d : Nat} {r : Option Value} {M1 : Mem} (h : En n d 183 0 (lv_args 0 [.int x]) [] M r M1) : M1 = M ∧ ∃ y : Int32, r = some (.int y) ∧ y.toInt = (pc8 x.toInt.toNat : Int) := by
  replace h := eConst (mi := 183) (pc := 0) (len := 1) (v := 0) rfl h
  replace h := eIstore (mi := 183) (pc := 1) (len := 1) (i := 1) rfl (by decide) h
  replace h := eConst (mi := 183) (pc := 2) (len := 1) (v := 0) rfl h
  replace h := eIstore (mi := 183) (pc := 3) (len := 1) (i := 2) rfl (by decide) h
  obtain ⟨e1, e2⟩ := rbits_lp n (k := 0) rfl rfl rfl (Int.le_refl 0) (by decide) rfl h
  have q := rBs_n x.toInt.toNat (by omega)
  rw [← i32_of x0] at q
  exact ⟨e2, _, e1, q⟩
theorem nb_n : ∀ y, y < 256 → ∀ k, k < 8 → tb (255 - y) k = !tb y k := by decide +kernel
set_option maxRecDepth 100000 in
theorem nb_m : ∀ y, y < 256 → (Int32.ofNat y ^^^ (-1 : Int32)).toBitVec = ~~~ (BitVec.ofNat 32 y) := by decide +kernel
theorem nb_i {x y : Int32} (h0 : 0 ≤ x.toInt) (h1 : x.toInt < 256) (y0 : 0 ≤ y.toInt) (y1 : y.toInt < 256) : (x &&& (y ^^^ (-1 : Int32))) = x &&& Int32.ofNat (255 - y.toInt.toNat) := by
  have e1 := nb_m y.toInt.toNat (by omega)
  rw [← i32_of y0] at e1
  apply Int32.toBitVec_inj.mp
  show x.toBitVec &&& (y ^^^ (-1 : Int32)).toBitVec = x.toBitVec &&& BitVec.ofNat 32 (255 - y.toInt.toNat)
  rw [e1]
  have ex : x.toBitVec = BitVec.ofNat 32 x.toInt.toNat := by
    have q := congrArg Int32.toBitVec (i32_of h0)
    exact q
  rw [ex]
  apply BitVec.eq_of_getLsbD_eq
  intro k hk
  rw [BitVec.getLsbD_and, BitVec.getLsbD_and, BitVec.getLsbD_not, BitVec.getLsbD_ofNat, BitVec.getLsbD_ofNat, BitVec.getLsbD_ofNat]
  by_cases c : k < 8
  · have q := nb_n y.toInt.toNat (by omega) k c
    unfold tb at q
    rw [q, decide_eq_true hk]
    simp
  · have q : Nat.testBit x.toInt.toNat k = false := Nat.testBit_lt_two_pow (Nat.lt_of_lt_of_le (show x.toInt.toNat < 2 ^ 8 by omega) (Nat.pow_le_pow_right (by decide) (by omega)))
    rw [q]
    simp
theorem nb_z {x y : Int32} (h0 : 0 ≤ x.toInt) (h1 : x.toInt < 256) (y0 : 0 ≤ y.toInt) (y1 : y.toInt < 256) (h : (x &&& (y ^^^ (-1 : Int32))).toInt = 0) : ∀ k, k < 8 → tb x.toInt.toNat k = true → tb y.toInt.toNat k = true := by
  intro k hk hb
  rw [nb_i h0 h1 y0 y1] at h
  have e : (Int32.ofNat (255 - y.toInt.toNat)).toInt = ((255 - y.toInt.toNat : Nat) : Int) := Int32.toInt_ofNat_of_lt (by omega)
  have q := an_z h0 h1 (by rw [e]; omega) (by rw [e]; omega) h k hk hb
  rw [e, Int.toNat_natCast, nb_n _ (by omega) k hk] at q
  cases hq : tb y.toInt.toNat k with
  | true => rfl
  | false => rw [hq] at q; cases q
theorem nb_nz {x y : Int32} (h0 : 0 ≤ x.toInt) (h1 : x.toInt < 256) (y0 : 0 ≤ y.toInt) (y1 : y.toInt < 256) (h : ¬ (x &&& (y ^^^ (-1 : Int32))).toInt = 0) : ∃ k, k < 8 ∧ tb x.toInt.toNat k = true ∧ tb y.toInt.toNat k = false := by
  rw [nb_i h0 h1 y0 y1] at h
  have e : (Int32.ofNat (255 - y.toInt.toNat)).toInt = ((255 - y.toInt.toNat : Nat) : Int) := Int32.toInt_ofNat_of_lt (by omega)
  obtain ⟨k, hk, a, b⟩ := an_nz h0 h1 (by rw [e]; omega) (by rw [e]; omega) h
  rw [e, Int.toNat_natCast, nb_n _ (by omega) k hk] at b
  refine ⟨k, hk, a, ?_⟩
  cases hq : tb y.toInt.toNat k with
  | false => rfl
  | true => rw [hq] at b; cases b
/-- no more is sold than when all that are asked buy: those that don't keep the best the best -/
theorem wB_not {M : Mem} {s b T : Nat} (h : wB M s b) (hs : s < 256) (hT : T < 256) (hTa : wAl M T) (hTs : ∀ i, i < 8 → tb T i = true → tb s i = true) (hal : ¬ wAl M s) : wG M T < wG M b ∨ (wG M T = wG M b ∧ pc8 b ≤ pc8 s) := arg_step (al := wAl M) (gn := wG M) (wB_opt h) hs hT hTa hTs hal
theorem widR_lp {M : Mem} {w : Int32} (hS : Sh M) (hp : wOk M) (hx : xM M) (hw : bIn w 2 = true) : ∀ (n : Nat) {d : Nat} {L : MLoc} {r : Option Value} {M1 : Mem} {b y k : Int32}, mLd L 0 = some (.ref 181) → mLd L 1 = some (.int w) → mLd L 2 = some (.int b) → mLd L 3 = some (.int y) → mLd L 4 = some (.int k) → 0 ≤ k.toInt → k.toInt ≤ 256 → 0 ≤ b.toInt → b.toInt < 256 → wB M k.toInt.toNat b.toInt.toNat → y.toInt = wG M b.toInt.toNat → En n d 267 18 L [] M r M1 → M1 = M ∧ ∃ v : Int32, r = some (.int v) ∧ wRes M w v := by
  intro n
  induction n with
  | zero => intro d L r M1 b y k _ _ _ _ _ _ _ _ _ _ _ h; exact (En.zero (mi := 267) (pc := 18) (len := 2) rfl h).elim
  | succ n ih =>
    intro d L r M1 b y k l0 l1 l2 l3 l4 k0 k8 b0 b1 hB hy h
    have ei : k.toInt < 256 → (k + 1).toInt = k.toInt + 1 := fun _ => i32_inc k0 (by omega)
    have en : k.toInt < 256 → (k + 1).toInt.toNat = k.toInt.toNat + 1 := fun q => by rw [ei q]; omega
    obtain ⟨u0, u1⟩ := hx.2.1
    replace h := eIloadS (mi := 267) (pc := 18) (len := 2) (i := 4) rfl l4 h
    replace h := eConst (mi := 267) (pc := 20) (len := 3) (v := 256) rfl h
    rcases eIc (mi := 267) (pc := 23) (len := 3) (t := 88) rfl rfl h with ⟨c1, h⟩ | ⟨c1, h⟩
    · replace c1 : ¬ k.toInt < 256 := mC_ge.1 c1
      replace h := eIload (mi := 267) (pc := 88) (len := 1) (i := 1) rfl l1 h
      rcases eIf (mi := 267) (pc := 89) (len := 3) (t := 96) rfl rfl h with ⟨c2, h⟩ | ⟨c2, h⟩
      · replace c2 : ¬ w.toInt = 0 := mC_ne.1 c2
        replace h := eIload (mi := 267) (pc := 96) (len := 1) (i := 2) rfl l2 h
        obtain ⟨e1, e2⟩ := eRetI (mi := 267) (pc := 97) (len := 1) rfl h
        rw [show k.toInt.toNat = 256 by omega] at hB
        exact ⟨e2, b, e1, Or.inr (Or.inr ⟨hw, c2, b.toInt.toNat, by omega, hB, by omega⟩)⟩
      · replace c2 : w.toInt = 0 := mC_ne.2 c2
        replace h := eIload (mi := 267) (pc := 92) (len := 1) (i := 3) rfl l3 h
        replace h := eGoto (mi := 267) (pc := 93) (len := 3) (t := 97) rfl rfl h
        obtain ⟨e1, e2⟩ := eRetI (mi := 267) (pc := 97) (len := 1) rfl h
        rw [show k.toInt.toNat = 256 by omega] at hB
        exact ⟨e2, y, e1, Or.inr (Or.inl ⟨hw, c2, b.toInt.toNat, by omega, hB, hy⟩)⟩
    · replace c1 : k.toInt < 256 := mC_ge.2 c1
      replace h := eIload (mi := 267) (pc := 26) (len := 2) (i := 4) rfl l4 h
      replace h := eAload (mi := 267) (pc := 28) (len := 1) (i := 0) rfl l0 h
      replace h := eGetI (a := 181) (j := 1159) hS (by decide) (by decide) rfl (mi := 267) (pc := 29) (len := 3) rfl h
      replace h := eConst (mi := 267) (pc := 32) (len := 1) (v := (-1)) rfl h
      replace h := eXor (mi := 267) (pc := 33) (len := 1) rfl h
      replace h := eAnd (mi := 267) (pc := 34) (len := 1) rfl h
      rcases eIf (mi := 267) (pc := 35) (len := 3) (t := 41) rfl rfl h with ⟨c3, h⟩ | ⟨c3, h⟩
      · replace c3 : (k &&& ((iv M 181 59) ^^^ ((-1) : Int32))).toInt = 0 := mC_eq.1 c3
        replace h := eAload (mi := 267) (pc := 41) (len := 1) (i := 0) rfl l0 h
        replace h := eIload (mi := 267) (pc := 42) (len := 2) (i := 4) rfl l4 h
        obtain ⟨r4, N5, g6, h⟩ := eCall (mi := 267) (pc := 44) (len := 3) (j := 266) (as := [.ref 181, .int k]) (rest := []) rfl (Or.inr (Or.inl rfl)) (by decide) rfl rfl h
        have hq : k.toInt < 256 := by omega
        have hP : ∀ i, i < 8 → tb k.toInt.toNat i = true → wPr M i ≠ 0 := fun i hi hb => by
          have q := nb_z k0 hq u0 u1 c3 i hi hb
          rw [xM_tb hx hi] at q
          have q := of_decide_eq_true q
          exact fun q2 => q (Int32.toInt_inj.mp (show (iv M 140 i).toInt = (0 : Int32).toInt from q2))
        obtain ⟨mr4, v, T, qr4, T1, vT, aT, sT, eT⟩ := gets_en (x := k) hS hp hx k0 hq hP g6
        rw [qr4, mr4] at h
        replace h := eIstore (mi := 267) (pc := 47) (len := 2) (i := 5) rfl (by decide) h
        replace h := eIload (mi := 267) (pc := 49) (len := 2) (i := 5) rfl mLd_st1_i h
        replace h := eIload (mi := 267) (pc := 51) (len := 1) (i := 3) rfl (mLd_st1_int (by decide) l3) h
        rcases eIc (mi := 267) (pc := 52) (len := 3) (t := 82) rfl rfl h with ⟨c7, h⟩ | ⟨c7, h⟩
        · replace c7 : v.toInt < y.toInt := mC_lt.1 c7
          replace h := eIinc (mi := 267) (pc := 82) (len := 3) (i := 4) (k := 1) rfl (mLd_st1_int (by decide) l4) (by decide) h
          replace h := eGoto (mi := 267) (pc := 85) (len := 3) (t := 18) rfl rfl h
          refine ih (k := k + 1) (b := b) (y := y) (mLd_st1_ref (by decide) (mLd_st1_ref (by decide) l0)) (mLd_st1_int (by decide) (mLd_st1_int (by decide) l1)) (mLd_st1_int (by decide) (mLd_st1_int (by decide) l2)) (mLd_st1_int (by decide) (mLd_st1_int (by decide) l3)) mLd_st1_i (by omega) (by omega) b0 b1 ?_ hy h
          rw [en hq]
          refine wB_no hB (fun q => ?_)
          have e := eT q.1
          subst e
          have q2 := q.2
          unfold wBe at q2
          rw [← vT, ← hy] at q2
          omega
        · replace c7 : ¬ v.toInt < y.toInt := mC_lt.2 c7
          replace h := eIload (mi := 267) (pc := 55) (len := 2) (i := 5) rfl mLd_st1_i h
          replace h := eIload (mi := 267) (pc := 57) (len := 1) (i := 3) rfl (mLd_st1_int (by decide) l3) h
          rcases eIc (mi := 267) (pc := 58) (len := 3) (t := 76) rfl rfl h with ⟨c8, h⟩ | ⟨c8, h⟩
          · replace c8 : ¬ v.toInt = y.toInt := mC_ne.1 c8
            replace h := eIload (mi := 267) (pc := 76) (len := 2) (i := 4) rfl (mLd_st1_int (by decide) l4) h
            replace h := eIstore (mi := 267) (pc := 78) (len := 1) (i := 2) rfl (by decide) h
            replace h := eIload (mi := 267) (pc := 79) (len := 2) (i := 5) rfl (mLd_st1_int (by decide) mLd_st1_i) h
            replace h := eIstore (mi := 267) (pc := 81) (len := 1) (i := 3) rfl (by decide) h
            replace h := eIinc (mi := 267) (pc := 82) (len := 3) (i := 4) (k := 1) rfl (mLd_st1_int (by decide) (mLd_st1_int (by decide) (mLd_st1_int (by decide) l4))) (by decide) h
            replace h := eGoto (mi := 267) (pc := 85) (len := 3) (t := 18) rfl rfl h
            have ha : wAl M k.toInt.toNat := Classical.byContradiction (fun ha => by
              have q := wB_not hB (by omega) T1 aT sT ha
              rw [← vT, ← hy] at q
              omega)
            have e := eT ha
            subst e
            refine ih (k := k + 1) (b := k) (y := v) (mLd_st1_ref (by decide) (mLd_st1_ref (by decide) (mLd_st1_ref (by decide) (mLd_st1_ref (by decide) l0)))) (mLd_st1_int (by decide) (mLd_st1_int (by decide) (mLd_st1_int (by decide) (mLd_st1_int (by decide) l1)))) (mLd_st1_int (by decide) (mLd_st1_int (by decide) mLd_st1_i)) (mLd_st1_int (by decide) mLd_st1_i) mLd_st1_i (by omega) (by omega) k0 hq ?_ vT h
            rw [en hq]
            refine wB_yes hB ha ?_
            unfold wBe
            rw [← vT, ← hy]
            omega
          · replace c8 : v.toInt = y.toInt := mC_ne.2 c8
            replace h := eIload (mi := 267) (pc := 61) (len := 2) (i := 4) rfl (mLd_st1_int (by decide) l4) h
            obtain ⟨r9, N10, g11, h⟩ := eCall (mi := 267) (pc := 63) (len := 3) (j := 183) (as := [.int k]) (rest := []) rfl (Or.inl rfl) (by decide) rfl rfl h
            obtain ⟨mr9, nr9, qr9, vr9⟩ := rbits_en (x := k) k0 hq g11
            rw [qr9, mr9] at h
            replace h := eIload (mi := 267) (pc := 66) (len := 1) (i := 2) rfl (mLd_st1_int (by decide) l2) h
            obtain ⟨r12, N13, g14, h⟩ := eCall (mi := 267) (pc := 67) (len := 3) (j := 183) (as := [.int b]) (rest := [.int nr9]) rfl (Or.inl rfl) (by decide) rfl rfl h
            obtain ⟨mr12, nr12, qr12, vr12⟩ := rbits_en (x := b) b0 b1 g14
            rw [qr12, mr12] at h
            rcases eIc (mi := 267) (pc := 70) (len := 3) (t := 76) rfl rfl h with ⟨c15, h⟩ | ⟨c15, h⟩
            · replace c15 : nr9.toInt < nr12.toInt := mC_lt.1 c15
              replace h := eIload (mi := 267) (pc := 76) (len := 2) (i := 4) rfl (mLd_st1_int (by decide) l4) h
              replace h := eIstore (mi := 267) (pc := 78) (len := 1) (i := 2) rfl (by decide) h
              replace h := eIload (mi := 267) (pc := 79) (len := 2) (i := 5) rfl (mLd_st1_int (by decide) mLd_st1_i) h
              replace h := eIstore (mi := 267) (pc := 81) (len := 1) (i := 3) rfl (by decide) h
              replace h := eIinc (mi := 267) (pc := 82) (len := 3) (i := 4) (k := 1) rfl (mLd_st1_int (by decide) (mLd_st1_int (by decide) (mLd_st1_int (by decide) l4))) (by decide) h
              replace h := eGoto (mi := 267) (pc := 85) (len := 3) (t := 18) rfl rfl h
              rw [vr9] at c15
              rw [vr12] at c15
              have ha : wAl M k.toInt.toNat := Classical.byContradiction (fun ha => by
                have q := wB_not hB (by omega) T1 aT sT ha
                rw [← vT, ← hy] at q
                omega)
              have e := eT ha
              subst e
              refine ih (k := k + 1) (b := k) (y := v) (mLd_st1_ref (by decide) (mLd_st1_ref (by decide) (mLd_st1_ref (by decide) (mLd_st1_ref (by decide) l0)))) (mLd_st1_int (by decide) (mLd_st1_int (by decide) (mLd_st1_int (by decide) (mLd_st1_int (by decide) l1)))) (mLd_st1_int (by decide) (mLd_st1_int (by decide) mLd_st1_i)) (mLd_st1_int (by decide) mLd_st1_i) mLd_st1_i (by omega) (by omega) k0 hq ?_ vT h
              rw [en hq]
              refine wB_yes hB ha ?_
              unfold wBe
              rw [← vT, ← hy]
              omega
            · replace c15 : ¬ nr9.toInt < nr12.toInt := mC_lt.2 c15
              replace h := eGoto (mi := 267) (pc := 73) (len := 3) (t := 82) rfl rfl h
              replace h := eIinc (mi := 267) (pc := 82) (len := 3) (i := 4) (k := 1) rfl (mLd_st1_int (by decide) l4) (by decide) h
              replace h := eGoto (mi := 267) (pc := 85) (len := 3) (t := 18) rfl rfl h
              rw [vr9] at c15
              rw [vr12] at c15
              refine ih (k := k + 1) (b := b) (y := y) (mLd_st1_ref (by decide) (mLd_st1_ref (by decide) l0)) (mLd_st1_int (by decide) (mLd_st1_int (by decide) l1)) (mLd_st1_int (by decide) (mLd_st1_int (by decide) l2)) (mLd_st1_int (by decide) (mLd_st1_int (by decide) l3)) mLd_st1_i (by omega) (by omega) b0 b1 ?_ hy h
              rw [en hq]
              refine wB_no hB (fun q => ?_)
              have e := eT q.1
              subst e
              have q2 := q.2
              unfold wBe at q2
              rw [← vT, ← hy] at q2
              omega
      · replace c3 : ¬ (k &&& ((iv M 181 59) ^^^ ((-1) : Int32))).toInt = 0 := mC_eq.2 c3
        replace h := eGoto (mi := 267) (pc := 38) (len := 3) (t := 82) rfl rfl h
        replace h := eIinc (mi := 267) (pc := 82) (len := 3) (i := 4) (k := 1) rfl l4 (by decide) h
        replace h := eGoto (mi := 267) (pc := 85) (len := 3) (t := 18) rfl rfl h
        have hq : k.toInt < 256 := by omega
        refine ih (k := k + 1) (b := b) (y := y) (mLd_st1_ref (by decide) l0) (mLd_st1_int (by decide) l1) (mLd_st1_int (by decide) l2) (mLd_st1_int (by decide) l3) mLd_st1_i (by omega) (by omega) b0 b1 ?_ hy h
        rw [en hq]
        refine wB_no hB (fun q => ?_)
        obtain ⟨i, hi, a1, a2⟩ := nb_nz k0 hq u0 u1 c3
        rw [xM_tb hx hi] at a2
        have a2 := of_decide_eq_false a2
        refine (q.1 i hi a1).1 ?_
        have a3 : iv M 140 i = 0 := Decidable.not_not.mp a2
        show (iv M 140 i).toInt = 0
        rw [a3]
        rfl
theorem rIn01 (w : Int32) : rIn w 0 1 = bIn w 2 := by
  unfold rIn bIn
  show (bif decide (w.toInt < 0) then false else (bif decide (1 < w.toInt) then false else true)) = (bif decide (w.toInt < 0) then false else (bif decide (w.toInt < 2) then true else false))
  by_cases a : w.toInt < 0
  · rw [decide_eq_true a]; rfl
  · rw [decide_eq_false a]
    by_cases b : 1 < w.toInt
    · rw [decide_eq_true b, decide_eq_false (show ¬ w.toInt < 2 by omega)]; rfl
    · rw [decide_eq_false b, decide_eq_true (show w.toInt < 2 by omega)]; rfl
theorem widR_en {M : Mem} {w : Int32} (hS : Sh M) (hp : wOk M) (hx : xM M) {n d : Nat} {r : Option Value} {M1 : Mem} (h : En n d 267 0 (lv_args 0 [.ref 181, .int w]) [] M r M1) : M1 = M ∧ ∃ v : Int32, r = some (.int v) ∧ wRes M w v := by
  replace h := eIload (mi := 267) (pc := 0) (len := 1) (i := 1) rfl rfl h
  replace h := eConst (mi := 267) (pc := 1) (len := 1) (v := 0) rfl h
  replace h := eConst (mi := 267) (pc := 2) (len := 1) (v := 1) rfl h
  replace h := eCallP (mi := 267) (pc := 3) (len := 3) (j := 160) (as := [.int w, .int (0 : Int32), .int (1 : Int32)]) (rest := []) rfl (Or.inl rfl) (by decide) rfl rfl (fun _ _ _ _ g => rIn_en hS g) h
  rcases eIf (mi := 267) (pc := 6) (len := 3) (t := 11) rfl rfl h with ⟨c1, h⟩ | ⟨c1, h⟩
  · replace c1 : rIn w (0 : Int32) (1 : Int32) = true := mB_ne.1 c1
    replace h := eConst (mi := 267) (pc := 11) (len := 1) (v := 0) rfl h
    replace h := eIstore (mi := 267) (pc := 12) (len := 1) (i := 2) rfl (by decide) h
    replace h := eConst (mi := 267) (pc := 13) (len := 1) (v := 0) rfl h
    replace h := eIstore (mi := 267) (pc := 14) (len := 1) (i := 3) rfl (by decide) h
    replace h := eConst (mi := 267) (pc := 15) (len := 1) (v := 1) rfl h
    replace h := eIstore (mi := 267) (pc := 16) (len := 2) (i := 4) rfl (by decide) h
    rw [rIn01] at c1
    have g0 : (0 : Int32).toInt = wG M (0 : Int32).toInt.toNat := by
      have q : ∀ n, n ≤ 8 → wGain (wPr M) (tb 0) n = 0 := by
        intro n
        induction n with
        | zero => intro _; rfl
        | succ n ih =>
          intro hn
          unfold wGain
          rw [ih (by omega), show tb 0 n = false from Nat.zero_testBit n, if_neg (by decide)]
          rfl
      exact (q 8 (Nat.le_refl 8)).symm
    exact widR_lp hS hp hx c1 n (b := 0) (y := 0) (k := 1) rfl rfl rfl rfl rfl (by decide) (by decide) (Int.le_refl 0) (by decide) wB_1 g0 h
  · replace c1 : rIn w (0 : Int32) (1 : Int32) = false := mB_ne.2 c1
    replace h := eConst (mi := 267) (pc := 9) (len := 1) (v := (-1)) rfl h
    obtain ⟨e1, e2⟩ := eRetI (mi := 267) (pc := 10) (len := 1) rfl h
    rw [rIn01] at c1
    exact ⟨e2, _, e1, Or.inl ⟨c1, rfl⟩⟩

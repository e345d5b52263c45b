/-! the market, the class's side (printed by fn26.py) -/
theorem eUshr {n d mi pc len : Nat} {L : MLoc} {st : List Value} {M : Mem} {r : Option Value} {M1 : Mem} {x y : Int32} (hat : mAt mi pc = some (len, .iushr)) (h : En n d mi pc L (.int y :: .int x :: st) M r M1) : En n d mi (pc + len) L (.int (ushr x y) :: st) M r M1 := En.pl hat rfl h
def wPr (M : Mem) (i : Nat) : Int := (iv M 140 i).toInt
def wDy (M : Mem) (i : Nat) : Int := (iv M 139 i).toInt
def wEn (M : Mem) (i : Nat) : Int := (iv M 141 i).toInt
def wHe (M : Mem) (i j : Nat) : Int := (iv M (143 + i) j).toInt
/-- what the market's cells may hold -/
def wOk (M : Mem) : Prop := ∀ i, i < 8 → (0 ≤ wPr M i ∧ wPr M i ≤ 9999) ∧ (0 ≤ wDy M i ∧ wDy M i ≤ 999) ∧ (0 ≤ wEn M i ∧ wEn M i ≤ 99) ∧ ∀ j, j < 8 → 0 ≤ wHe M i j ∧ wHe M i j ≤ 100
set_option maxRecDepth 100000 in
theorem bt_n : ∀ x, x < 256 → ∀ k, k < 8 → ((Int32.ofNat x >>> (Int32.ofNat k &&& 31)) &&& (1 : Int32)) = (if tb x k then 1 else 0) := by decide +kernel
theorem bt_i {x k : Int32} (h0 : 0 ≤ x.toInt) (h1 : x.toInt < 256) (k0 : 0 ≤ k.toInt) (k1 : k.toInt < 8) : ((x >>> (k &&& 31)) &&& (1 : Int32)) = (if tb x.toInt.toNat k.toInt.toNat then 1 else 0) := by
  have e := bt_n x.toInt.toNat (by omega) k.toInt.toNat (by omega)
  rw [← i32_of h0, ← i32_of k0] at e
  exact e
theorem bt_f {x k : Int32} (h0 : 0 ≤ x.toInt) (h1 : x.toInt < 256) (k0 : 0 ≤ k.toInt) (k1 : k.toInt < 8) (h : ((x >>> (k &&& 31)) &&& (1 : Int32)).toInt = 0) : tb x.toInt.toNat k.toInt.toNat = false := by
  rw [bt_i h0 h1 k0 k1] at h
  cases hq : tb x.toInt.toNat k.toInt.toNat with
  | false => rfl
  | true =>
    rw [hq] at h
    exact absurd h (by decide)
theorem bt_t {x k : Int32} (h0 : 0 ≤ x.toInt) (h1 : x.toInt < 256) (k0 : 0 ≤ k.toInt) (k1 : k.toInt < 8) (h : ¬ ((x >>> (k &&& 31)) &&& (1 : Int32)).toInt = 0) : tb x.toInt.toNat k.toInt.toNat = true := by
  rw [bt_i h0 h1 k0 k1] at h
  cases hq : tb x.toInt.toNat k.toInt.toNat with
  | true => rfl
  | false =>
    rw [hq] at h
    exact absurd (by decide) h
theorem wGain_b {M : Mem} (hp : wOk M) {A : Nat → Bool} : ∀ {k : Nat}, k ≤ 8 → 0 ≤ wGain (wPr M) A k ∧ wGain (wPr M) A k ≤ 9999 * (k : Int)
  | 0, _ => ⟨Int.le_refl 0, Int.le_refl 0⟩
  | k + 1, hk => by
    have q := wGain_b hp (A := A) (k := k) (by omega)
    have r := (hp k (by omega)).1
    unfold wGain
    cases A k with
    | true => rw [if_pos rfl]; omega
    | false => rw [if_neg (by decide)]; omega
theorem gain_lp {M : Mem} {x : Int32} (hS : Sh M) (hp : wOk M) (x0 : 0 ≤ x.toInt) (x1 : x.toInt < 256) : ∀ (n : Nat) {d : Nat} {L : MLoc} {r : Option Value} {M1 : Mem} {y k : Int32}, mLd L 0 = some (.ref 138) → mLd L 1 = some (.int x) → mLd L 2 = some (.int y) → mLd L 3 = some (.int k) → 0 ≤ k.toInt → k.toInt ≤ 8 → y.toInt = wGain (wPr M) (tb x.toInt.toNat) k.toInt.toNat → En n d 97 4 L [] M r M1 → M1 = M ∧ ∃ z : Int32, r = some (.int z) ∧ z.toInt = wGain (wPr M) (tb x.toInt.toNat) 8 := by
  intro n
  induction n with
  | zero => intro d L r M1 y k _ _ _ _ _ _ _ h; exact (En.zero (mi := 97) (pc := 4) (len := 1) rfl h).elim
  | succ n ih =>
    intro d L r M1 y k l0 l1 l2 l3 k0 k8 hy h
    have ek : k.toInt < 8 → (k + 1).toInt = k.toInt + 1 := fun _ => i32_inc k0 (by omega)
    have en : k.toInt < 8 → (k + 1).toInt.toNat = k.toInt.toNat + 1 := fun q => by rw [ek q]; omega
    have gb := wGain_b hp (A := tb x.toInt.toNat) (k := k.toInt.toNat) (by omega)
    replace h := eIloadS (mi := 97) (pc := 4) (len := 1) (i := 3) rfl l3 h
    replace h := eConst (mi := 97) (pc := 5) (len := 2) (v := 8) rfl h
    rcases eIc (mi := 97) (pc := 7) (len := 3) (t := 33) rfl rfl h with ⟨c1, h⟩ | ⟨c1, h⟩
    · replace c1 : ¬ k.toInt < 8 := mC_ge.1 c1
      replace h := eIload (mi := 97) (pc := 33) (len := 1) (i := 2) rfl l2 h
      obtain ⟨e1, e2⟩ := eRetI (mi := 97) (pc := 34) (len := 1) rfl h
      refine ⟨e2, y, e1, ?_⟩
      rw [hy, show k.toInt.toNat = 8 by omega]
    · replace c1 : k.toInt < 8 := mC_ge.2 c1
      replace h := eIload (mi := 97) (pc := 10) (len := 1) (i := 1) rfl l1 h
      replace h := eIload (mi := 97) (pc := 11) (len := 1) (i := 3) rfl l3 h
      replace h := eShr (mi := 97) (pc := 12) (len := 1) rfl h
      replace h := eConst (mi := 97) (pc := 13) (len := 1) (v := 1) rfl h
      replace h := eAnd (mi := 97) (pc := 14) (len := 1) rfl h
      rcases eIf (mi := 97) (pc := 15) (len := 3) (t := 27) rfl rfl h with ⟨c2, h⟩ | ⟨c2, h⟩
      · replace c2 : ((x >>> (k &&& 31)) &&& (1 : Int32)).toInt = 0 := mC_eq.1 c2
        replace h := eIinc (mi := 97) (pc := 27) (len := 3) (i := 3) (k := 1) rfl l3 (by decide) h
        replace h := eGoto (mi := 97) (pc := 30) (len := 3) (t := 4) rfl rfl h
        have hb := bt_f x0 x1 k0 (by omega) c2
        refine ih (k := k + 1) (mLd_st1_ref (by decide) l0) (mLd_st1_int (by decide) l1) (mLd_st1_int (by decide) l2) mLd_st1_i (by omega) (by omega) ?_ h
        rw [en (by omega)]
        show _ = wGain (wPr M) (tb x.toInt.toNat) k.toInt.toNat + (if tb x.toInt.toNat k.toInt.toNat = true then wPr M k.toInt.toNat else 0)
        rw [hb, if_neg (by decide), hy]
        omega
      · replace c2 : ¬ ((x >>> (k &&& 31)) &&& (1 : Int32)).toInt = 0 := mC_eq.2 c2
        replace h := eIload (mi := 97) (pc := 18) (len := 1) (i := 2) rfl l2 h
        replace h := eAload (mi := 97) (pc := 19) (len := 1) (i := 0) rfl l0 h
        replace h := eGetR (a := 138) (j := 701) (g := 140) hS (by decide) (by decide) rfl rfl rfl (mi := 97) (pc := 20) (len := 3) rfl h
        replace h := eIload (mi := 97) (pc := 23) (len := 1) (i := 3) rfl l3 h
        obtain ⟨b3, h⟩ := eIald (x := k) hS (a := 140) (by decide) (by decide) rfl (mi := 97) (pc := 24) (len := 1) rfl h
        replace h := eAdd (mi := 97) (pc := 25) (len := 1) rfl h
        replace h := eIstore (mi := 97) (pc := 26) (len := 1) (i := 2) rfl (by decide) h
        replace h := eIinc (mi := 97) (pc := 27) (len := 3) (i := 3) (k := 1) rfl (mLd_st1_int (by decide) l3) (by decide) h
        replace h := eGoto (mi := 97) (pc := 30) (len := 3) (t := 4) rfl rfl h
        have hb := bt_t x0 x1 k0 (by omega) c2
        have hpk := (hp k.toInt.toNat (by omega)).1
        unfold wPr at hpk
        refine ih (k := k + 1) (mLd_st1_ref (by decide) (mLd_st1_ref (by decide) l0)) (mLd_st1_int (by decide) (mLd_st1_int (by decide) l1)) (mLd_st1_int (by decide) mLd_st1_i) mLd_st1_i (by omega) (by omega) ?_ h
        rw [en (by omega)]
        show _ = wGain (wPr M) (tb x.toInt.toNat) k.toInt.toNat + (if tb x.toInt.toNat k.toInt.toNat = true then wPr M k.toInt.toNat else 0)
        rw [hb, if_pos rfl, i32_add (by omega) (by omega), hy]
        rfl
theorem gain_en {M : Mem} {x : Int32} (hS : Sh M) (hp : wOk M) (x0 : 0 ≤ x.toInt) (x1 : x.toInt < 256) {n d : Nat} {r : Option Value} {M1 : Mem} (h : En n d 97 0 (lv_args 0 [.ref 138, .int x]) [] M r M1) : M1 = M ∧ ∃ z : Int32, r = some (.int z) ∧ z.toInt = wGain (wPr M) (tb x.toInt.toNat) 8 := by
  replace h := eConst (mi := 97) (pc := 0) (len := 1) (v := 0) rfl h
  replace h := eIstore (mi := 97) (pc := 1) (len := 1) (i := 2) rfl (by decide) h
  replace h := eConst (mi := 97) (pc := 2) (len := 1) (v := 0) rfl h
  replace h := eIstore (mi := 97) (pc := 3) (len := 1) (i := 3) rfl (by decide) h
  exact gain_lp hS hp x0 x1 n (k := 0) rfl rfl rfl rfl (Int.le_refl 0) (by decide) rfl h
/-- java/lang/Integer.bitCount -/
def bc32 (x : Int32) : Int32 := ((((((((x - ((ushr x (1 : Int32)) &&& (1431655765 : Int32))) &&& (858993459 : Int32)) + ((ushr (x - ((ushr x (1 : Int32)) &&& (1431655765 : Int32))) (2 : Int32)) &&& (858993459 : Int32))) + (ushr (((x - ((ushr x (1 : Int32)) &&& (1431655765 : Int32))) &&& (858993459 : Int32)) + ((ushr (x - ((ushr x (1 : Int32)) &&& (1431655765 : Int32))) (2 : Int32)) &&& (858993459 : Int32))) (4 : Int32))) &&& (252645135 : Int32)) + (ushr (((((x - ((ushr x (1 : Int32)) &&& (1431655765 : Int32))) &&& (858993459 : Int32)) + ((ushr (x - ((ushr x (1 : Int32)) &&& (1431655765 : Int32))) (2 : Int32)) &&& (858993459 : Int32))) + (ushr (((x - ((ushr x (1 : Int32)) &&& (1431655765 : Int32))) &&& (858993459 : Int32)) + ((ushr (x - ((ushr x (1 : Int32)) &&& (1431655765 : Int32))) (2 : Int32)) &&& (858993459 : Int32))) (4 : Int32))) &&& (252645135 : Int32)) (8 : Int32))) + (ushr ((((((x - ((ushr x (1 : Int32)) &&& (1431655765 : Int32))) &&& (858993459 : Int32)) + ((ushr (x - ((ushr x (1 : Int32)) &&& (1431655765 : Int32))) (2 : Int32)) &&& (858993459 : Int32))) + (ushr (((x - ((ushr x (1 : Int32)) &&& (1431655765 : Int32))) &&& (858993459 : Int32)) + ((ushr (x - ((ushr x (1 : Int32)) &&& (1431655765 : Int32))) (2 : Int32)) &&& (858993459 : Int32))) (4 : Int32))) &&& (252645135 : Int32)) + (ushr (((((x - ((ushr x (1 : Int32)) &&& (1431655765 : Int32))) &&& (858993459 : Int32)) + ((ushr (x - ((ushr x (1 : Int32)) &&& (1431655765 : Int32))) (2 : Int32)) &&& (858993459 : Int32))) + (ushr (((x - ((ushr x (1 : Int32)) &&& (1431655765 : Int32))) &&& (858993459 : Int32)) + ((ushr (x - ((ushr x (1 : Int32)) &&& (1431655765 : Int32))) (2 : Int32)) &&& (858993459 : Int32))) (4 : Int32))) &&& (252645135 : Int32)) (8 : Int32))) (16 : Int32))) &&& (63 : Int32))
theorem bc32_en {x : Int32} {n d : Nat} {M : Mem} {r : Option Value} {M1 : Mem} (hS : Sh M) (h : En n d 279 0 (lv_args 0 [.int x]) [] M r M1) : r = some (.int (bc32 x)) ∧ M1 = M := by
  replace h := eIload (mi := 279) (pc := 0) (len := 1) (i := 0) rfl rfl h
  replace h := eIload (mi := 279) (pc := 1) (len := 1) (i := 0) rfl rfl h
  replace h := eConst (mi := 279) (pc := 2) (len := 1) (v := 1) rfl h
  replace h := eUshr (mi := 279) (pc := 3) (len := 1) rfl h
  replace h := eConst (mi := 279) (pc := 4) (len := 3) (v := 1431655765) rfl h
  replace h := eAnd (mi := 279) (pc := 7) (len := 1) rfl h
  replace h := eSub (mi := 279) (pc := 8) (len := 1) rfl h
  replace h := eIstore (mi := 279) (pc := 9) (len := 1) (i := 0) rfl (by decide) h
  replace h := eIload (mi := 279) (pc := 10) (len := 1) (i := 0) rfl rfl h
  replace h := eConst (mi := 279) (pc := 11) (len := 3) (v := 858993459) rfl h
  replace h := eAnd (mi := 279) (pc := 14) (len := 1) rfl h
  replace h := eIload (mi := 279) (pc := 15) (len := 1) (i := 0) rfl rfl h
  replace h := eConst (mi := 279) (pc := 16) (len := 1) (v := 2) rfl h
  replace h := eUshr (mi := 279) (pc := 17) (len := 1) rfl h
  replace h := eConst (mi := 279) (pc := 18) (len := 3) (v := 858993459) rfl h
  replace h := eAnd (mi := 279) (pc := 21) (len := 1) rfl h
  replace h := eAdd (mi := 279) (pc := 22) (len := 1) rfl h
  replace h := eIstore (mi := 279) (pc := 23) (len := 1) (i := 0) rfl (by decide) h
  replace h := eIload (mi := 279) (pc := 24) (len := 1) (i := 0) rfl rfl h
  replace h := eIload (mi := 279) (pc := 25) (len := 1) (i := 0) rfl rfl h
  replace h := eConst (mi := 279) (pc := 26) (len := 1) (v := 4) rfl h
  replace h := eUshr (mi := 279) (pc := 27) (len := 1) rfl h
  replace h := eAdd (mi := 279) (pc := 28) (len := 1) rfl h
  replace h := eConst (mi := 279) (pc := 29) (len := 3) (v := 252645135) rfl h
  replace h := eAnd (mi := 279) (pc := 32) (len := 1) rfl h
  replace h := eIstore (mi := 279) (pc := 33) (len := 1) (i := 0) rfl (by decide) h
  replace h := eIload (mi := 279) (pc := 34) (len := 1) (i := 0) rfl rfl h
  replace h := eIload (mi := 279) (pc := 35) (len := 1) (i := 0) rfl rfl h
  replace h := eConst (mi := 279) (pc := 36) (len := 2) (v := 8) rfl h
  replace h := eUshr (mi := 279) (pc := 38) (len := 1) rfl h
  replace h := eAdd (mi := 279) (pc := 39) (len := 1) rfl h
  replace h := eIstore (mi := 279) (pc := 40) (len := 1) (i := 0) rfl (by decide) h
  replace h := eIload (mi := 279) (pc := 41) (len := 1) (i := 0) rfl rfl h
  replace h := eIload (mi := 279) (pc := 42) (len := 1) (i := 0) rfl rfl h
  replace h := eConst (mi := 279) (pc := 43) (len := 2) (v := 16) rfl h
  replace h := eUshr (mi := 279) (pc := 45) (len := 1) rfl h
  replace h := eAdd (mi := 279) (pc := 46) (len := 1) rfl h
  replace h := eIstore (mi := 279) (pc := 47) (len := 1) (i := 0) rfl (by decide) h
  replace h := eIload (mi := 279) (pc := 48) (len := 1) (i := 0) rfl rfl h
  replace h := eConst (mi := 279) (pc := 49) (len := 2) (v := 63) rfl h
  replace h := eAnd (mi := 279) (pc := 51) (len := 1) rfl h
  obtain ⟨e1, e2⟩ := eRetI (mi := 279) (pc := 52) (len := 1) rfl h
  have e3 : bc32 x = ((((((((x - ((ushr x (1 : Int32)) &&& (1431655765 : Int32))) &&& (858993459 : Int32)) + ((ushr (x - ((ushr x (1 : Int32)) &&& (1431655765 : Int32))) (2 : Int32)) &&& (858993459 : Int32))) + (ushr (((x - ((ushr x (1 : Int32)) &&& (1431655765 : Int32))) &&& (858993459 : Int32)) + ((ushr (x - ((ushr x (1 : Int32)) &&& (1431655765 : Int32))) (2 : Int32)) &&& (858993459 : Int32))) (4 : Int32))) &&& (252645135 : Int32)) + (ushr (((((x - ((ushr x (1 : Int32)) &&& (1431655765 : Int32))) &&& (858993459 : Int32)) + ((ushr (x - ((ushr x (1 : Int32)) &&& (1431655765 : Int32))) (2 : Int32)) &&& (858993459 : Int32))) + (ushr (((x - ((ushr x (1 : Int32)) &&& (1431655765 : Int32))) &&& (858993459 : Int32)) + ((ushr (x - ((ushr x (1 : Int32)) &&& (1431655765 : Int32))) (2 : Int32)) &&& (858993459 : Int32))) (4 : Int32))) &&& (252645135 : Int32)) (8 : Int32))) + (ushr ((((((x - ((ushr x (1 : Int32)) &&& (1431655765 : Int32))) &&& (858993459 : Int32)) + ((ushr (x - ((ushr x (1 : Int32)) &&& (1431655765 : Int32))) (2 : Int32)) &&& (858993459 : Int32))) + (ushr (((x - ((ushr x (1 : Int32)) &&& (1431655765 : Int32))) &&& (858993459 : Int32)) + ((ushr (x - ((ushr x (1 : Int32)) &&& (1431655765 : Int32))) (2 : Int32)) &&& (858993459 : Int32))) (4 : Int32))) &&& (252645135 : Int32)) + (ushr (((((x - ((ushr x (1 : Int32)) &&& (1431655765 : Int32))) &&& (858993459 : Int32)) + ((ushr (x - ((ushr x (1 : Int32)) &&& (1431655765 : Int32))) (2 : Int32)) &&& (858993459 : Int32))) + (ushr (((x - ((ushr x (1 : Int32)) &&& (1431655765 : Int32))) &&& (858993459 : Int32)) + ((ushr (x - ((ushr x (1 : Int32)) &&& (1431655765 : Int32))) (2 : Int32)) &&& (858993459 : Int32))) (4 : Int32))) &&& (252645135 : Int32)) (8 : Int32))) (16 : Int32))) &&& (63 : Int32)) := by
    unfold bc32
    rfl
  rw [e3]
  exact ⟨e1, e2⟩
set_option maxRecDepth 100000 in
theorem bc32_n : ∀ x, x < 256 → (bc32 (Int32.ofNat x)).toInt = (pc8 x : Int) := by decide +kernel
theorem bc32_i {x : Int32} (h0 : 0 ≤ x.toInt) (h1 : x.toInt < 256) : (bc32 x).toInt = (pc8 x.toInt.toNat : Int) := by
  have e := bc32_n x.toInt.toNat (by omega)
  rw [← i32_of h0] at e
  exact e
theorem row_p {i : Nat} (h : i < 8) : 2 ≤ 143 + i ∧ 143 + i < tEnd ∧ ∀ j, (tTy (tGrp (143 + i)) j).1 = 1 := by
  obtain ⟨a, b, c⟩ := row_g i h
  exact ⟨a, b, fun j => by rw [c]; rfl⟩
theorem eRow {n d mi pc len : Nat} {L : MLoc} {st : List Value} {M : Mem} {r : Option Value} {M1 : Mem} {x : Int32} (hS : Sh M) (hR : ∀ i, i < 8 → mSlot M 142 i = some (.ref (143 + i))) (hat : mAt mi pc = some (len, .aaload)) (h : En n d mi pc L (.int x :: .ref 142 :: st) M r M1) : (0 ≤ x.toInt ∧ x.toInt.toNat < 8) ∧ En n d mi (pc + len) L (.ref (143 + x.toInt.toNat) :: st) M r M1 := by
  obtain ⟨⟨h0, h1⟩, b, hb, _, h⟩ := eAald hS (by decide) (by decide) rfl hat h
  have h1 : x.toInt.toNat < 8 := h1
  rw [hR _ h1] at hb
  cases hb
  exact ⟨⟨h0, h1⟩, h⟩
theorem warned_en {M : Mem} {i j : Int32} (hS : Sh M) (hR8 : ∀ i, i < 8 → mSlot M 142 i = some (.ref (143 + i))) (hp : wOk M) {n d : Nat} {r : Option Value} {M1 : Mem} (h : En n d 101 0 (lv_args 0 [.ref 138, .int i, .int j]) [] M r M1) : (0 ≤ i.toInt ∧ i.toInt < 8) ∧ (0 ≤ j.toInt ∧ j.toInt < 8) ∧ r = some (.int (b2 (wWd (wDy M) (wEn M) (wHe M) i.toInt.toNat j.toInt.toNat))) ∧ M1 = M := by
  replace h := eAload (mi := 101) (pc := 0) (len := 1) (i := 0) rfl rfl h
  replace h := eGetR (a := 138) (j := 700) (g := 139) hS (by decide) (by decide) rfl rfl rfl (mi := 101) (pc := 1) (len := 3) rfl h
  replace h := eIload (mi := 101) (pc := 4) (len := 1) (i := 2) rfl rfl h
  obtain ⟨b1, h⟩ := eIald (x := j) hS (a := 139) (by decide) (by decide) rfl (mi := 101) (pc := 5) (len := 1) rfl h
  replace h := eAload (mi := 101) (pc := 6) (len := 1) (i := 0) rfl rfl h
  replace h := eGetR (a := 138) (j := 700) (g := 139) hS (by decide) (by decide) rfl rfl rfl (mi := 101) (pc := 7) (len := 3) rfl h
  replace h := eIload (mi := 101) (pc := 10) (len := 1) (i := 1) rfl rfl h
  obtain ⟨b2, h⟩ := eIald (x := i) hS (a := 139) (by decide) (by decide) rfl (mi := 101) (pc := 11) (len := 1) rfl h
  rcases eIc (mi := 101) (pc := 12) (len := 3) (t := 35) rfl rfl h with ⟨c3, h⟩ | ⟨c3, h⟩
  · replace c3 : (iv M 139 j.toInt.toNat).toInt < (iv M 139 i.toInt.toNat).toInt := mC_lt.1 c3
    replace h := eConst (mi := 101) (pc := 35) (len := 1) (v := 1) rfl h
    replace h := eGoto (mi := 101) (pc := 36) (len := 3) (t := 40) rfl rfl h
    replace h := eIstore (mi := 101) (pc := 40) (len := 1) (i := 3) rfl (by decide) h
    replace h := eAload (mi := 101) (pc := 41) (len := 1) (i := 0) rfl rfl h
    replace h := eGetR (a := 138) (j := 703) (g := 142) hS (by decide) (by decide) rfl rfl rfl (mi := 101) (pc := 42) (len := 3) rfl h
    replace h := eIload (mi := 101) (pc := 45) (len := 1) (i := 1) rfl rfl h
    obtain ⟨b4, h⟩ := eRow (x := i) hS hR8 (mi := 101) (pc := 46) (len := 1) rfl h
    replace h := eIload (mi := 101) (pc := 47) (len := 1) (i := 2) rfl rfl h
    obtain ⟨b5, h⟩ := eIald (x := j) hS (a := (143 + i.toInt.toNat)) (row_p b4.2).1 (row_p b4.2).2.1 ((row_p b4.2).2.2 _) (mi := 101) (pc := 48) (len := 1) rfl h
    replace h := eConst (mi := 101) (pc := 49) (len := 2) (v := 100) rfl h
    rcases eIc (mi := 101) (pc := 51) (len := 3) (t := 82) rfl rfl h with ⟨c6, h⟩ | ⟨c6, h⟩
    · replace c6 : ¬ (iv M (143 + i.toInt.toNat) j.toInt.toNat).toInt < 100 := mC_ge.1 c6
      replace h := eConst (mi := 101) (pc := 82) (len := 1) (v := 0) rfl h
      replace h := eIstore (mi := 101) (pc := 83) (len := 2) (i := 4) rfl (by decide) h
      replace h := eIload (mi := 101) (pc := 85) (len := 1) (i := 3) rfl rfl h
      rcases eIf (mi := 101) (pc := 86) (len := 3) (t := 120) rfl rfl h with ⟨c7, h⟩ | ⟨c7, h⟩
      · exact absurd c7 (by decide)
      · skip
        replace h := eIload (mi := 101) (pc := 89) (len := 2) (i := 4) rfl rfl h
        rcases eIf (mi := 101) (pc := 91) (len := 3) (t := 116) rfl rfl h with ⟨c8, h⟩ | ⟨c8, h⟩
        · exact absurd c8 (by decide)
        · skip
          replace h := eAload (mi := 101) (pc := 94) (len := 1) (i := 0) rfl rfl h
          replace h := eGetR (a := 138) (j := 700) (g := 139) hS (by decide) (by decide) rfl rfl rfl (mi := 101) (pc := 95) (len := 3) rfl h
          replace h := eIload (mi := 101) (pc := 98) (len := 1) (i := 2) rfl rfl h
          obtain ⟨b9, h⟩ := eIald (x := j) hS (a := 139) (by decide) (by decide) rfl (mi := 101) (pc := 99) (len := 1) rfl h
          replace h := eAload (mi := 101) (pc := 100) (len := 1) (i := 0) rfl rfl h
          replace h := eGetR (a := 138) (j := 702) (g := 141) hS (by decide) (by decide) rfl rfl rfl (mi := 101) (pc := 101) (len := 3) rfl h
          replace h := eIload (mi := 101) (pc := 104) (len := 1) (i := 2) rfl rfl h
          obtain ⟨b10, h⟩ := eIald (x := j) hS (a := 141) (by decide) (by decide) rfl (mi := 101) (pc := 105) (len := 1) rfl h
          replace h := eAdd (mi := 101) (pc := 106) (len := 1) rfl h
          replace h := eAload (mi := 101) (pc := 107) (len := 1) (i := 0) rfl rfl h
          replace h := eGetR (a := 138) (j := 700) (g := 139) hS (by decide) (by decide) rfl rfl rfl (mi := 101) (pc := 108) (len := 3) rfl h
          replace h := eIload (mi := 101) (pc := 111) (len := 1) (i := 1) rfl rfl h
          obtain ⟨b11, h⟩ := eIald (x := i) hS (a := 139) (by decide) (by decide) rfl (mi := 101) (pc := 112) (len := 1) rfl h
          rcases eIc (mi := 101) (pc := 113) (len := 3) (t := 120) rfl rfl h with ⟨c12, h⟩ | ⟨c12, h⟩
          · replace c12 : (iv M 139 i.toInt.toNat).toInt < ((iv M 139 j.toInt.toNat) + (iv M 141 j.toInt.toNat)).toInt := mC_gt.1 c12
            replace h := eConst (mi := 101) (pc := 120) (len := 1) (v := 0) rfl h
            obtain ⟨e1, e2⟩ := eRetI (mi := 101) (pc := 121) (len := 1) rfl h
            have hj := b1
            have hi := b2
            have hj : 0 ≤ j.toInt ∧ j.toInt.toNat < 8 := hj
            have hi : 0 ≤ i.toInt ∧ i.toInt.toNat < 8 := hi
            obtain ⟨_, ⟨dj0, dj1⟩, ⟨nj0, nj1⟩, _⟩ := hp j.toInt.toNat hj.2
            obtain ⟨_, ⟨di0, di1⟩, _, hh⟩ := hp i.toInt.toNat hi.2
            obtain ⟨h0, h1⟩ := hh j.toInt.toNat hj.2
            unfold wDy at dj0 dj1 di0 di1
            unfold wEn at nj0 nj1
            unfold wHe at h0 h1
            have s1 : (iv M 139 j.toInt.toNat + iv M (143 + i.toInt.toNat) j.toInt.toNat).toInt = (iv M 139 j.toInt.toNat).toInt + (iv M (143 + i.toInt.toNat) j.toInt.toNat).toInt := i32_add (by omega) (by omega)
            have s2 : (iv M 139 j.toInt.toNat + iv M 141 j.toInt.toNat).toInt = (iv M 139 j.toInt.toNat).toInt + (iv M 141 j.toInt.toNat).toInt := i32_add (by omega) (by omega)
            try rw [s1] at c3
            try rw [s2] at c3
            try rw [s1] at c6
            try rw [s2] at c6
            try rw [s1] at c12
            try rw [s2] at c12
            have e3 : wWd (wDy M) (wEn M) (wHe M) i.toInt.toNat j.toInt.toNat = false := by
              rw [← Bool.not_eq_true]
              intro q
              unfold wWd wAh wWr wDy wEn wHe at q
              simp only [Bool.and_eq_true, Bool.or_eq_true, decide_eq_true_iff] at q
              omega
            rw [e3]
            exact ⟨by omega, by omega, e1, e2⟩
          · replace c12 : ¬ (iv M 139 i.toInt.toNat).toInt < ((iv M 139 j.toInt.toNat) + (iv M 141 j.toInt.toNat)).toInt := mC_gt.2 c12
            replace h := eConst (mi := 101) (pc := 116) (len := 1) (v := 1) rfl h
            replace h := eGoto (mi := 101) (pc := 117) (len := 3) (t := 121) rfl rfl h
            obtain ⟨e1, e2⟩ := eRetI (mi := 101) (pc := 121) (len := 1) rfl h
            have hj := b1
            have hi := b2
            have hj : 0 ≤ j.toInt ∧ j.toInt.toNat < 8 := hj
            have hi : 0 ≤ i.toInt ∧ i.toInt.toNat < 8 := hi
            obtain ⟨_, ⟨dj0, dj1⟩, ⟨nj0, nj1⟩, _⟩ := hp j.toInt.toNat hj.2
            obtain ⟨_, ⟨di0, di1⟩, _, hh⟩ := hp i.toInt.toNat hi.2
            obtain ⟨h0, h1⟩ := hh j.toInt.toNat hj.2
            unfold wDy at dj0 dj1 di0 di1
            unfold wEn at nj0 nj1
            unfold wHe at h0 h1
            have s1 : (iv M 139 j.toInt.toNat + iv M (143 + i.toInt.toNat) j.toInt.toNat).toInt = (iv M 139 j.toInt.toNat).toInt + (iv M (143 + i.toInt.toNat) j.toInt.toNat).toInt := i32_add (by omega) (by omega)
            have s2 : (iv M 139 j.toInt.toNat + iv M 141 j.toInt.toNat).toInt = (iv M 139 j.toInt.toNat).toInt + (iv M 141 j.toInt.toNat).toInt := i32_add (by omega) (by omega)
            try rw [s1] at c3
            try rw [s2] at c3
            try rw [s1] at c6
            try rw [s2] at c6
            try rw [s1] at c12
            try rw [s2] at c12
            have e3 : wWd (wDy M) (wEn M) (wHe M) i.toInt.toNat j.toInt.toNat = true := by
              unfold wWd wAh wWr wDy wEn wHe
              simp only [Bool.and_eq_true, Bool.or_eq_true, decide_eq_true_iff]
              omega
            rw [e3]
            exact ⟨by omega, by omega, e1, e2⟩
    · replace c6 : (iv M (143 + i.toInt.toNat) j.toInt.toNat).toInt < 100 := mC_ge.2 c6
      replace h := eAload (mi := 101) (pc := 54) (len := 1) (i := 0) rfl rfl h
      replace h := eGetR (a := 138) (j := 700) (g := 139) hS (by decide) (by decide) rfl rfl rfl (mi := 101) (pc := 55) (len := 3) rfl h
      replace h := eIload (mi := 101) (pc := 58) (len := 1) (i := 2) rfl rfl h
      obtain ⟨b13, h⟩ := eIald (x := j) hS (a := 139) (by decide) (by decide) rfl (mi := 101) (pc := 59) (len := 1) rfl h
      replace h := eAload (mi := 101) (pc := 60) (len := 1) (i := 0) rfl rfl h
      replace h := eGetR (a := 138) (j := 703) (g := 142) hS (by decide) (by decide) rfl rfl rfl (mi := 101) (pc := 61) (len := 3) rfl h
      replace h := eIload (mi := 101) (pc := 64) (len := 1) (i := 1) rfl rfl h
      obtain ⟨b14, h⟩ := eRow (x := i) hS hR8 (mi := 101) (pc := 65) (len := 1) rfl h
      replace h := eIload (mi := 101) (pc := 66) (len := 1) (i := 2) rfl rfl h
      obtain ⟨b15, h⟩ := eIald (x := j) hS (a := (143 + i.toInt.toNat)) (row_p b14.2).1 (row_p b14.2).2.1 ((row_p b14.2).2.2 _) (mi := 101) (pc := 67) (len := 1) rfl h
      replace h := eAdd (mi := 101) (pc := 68) (len := 1) rfl h
      replace h := eAload (mi := 101) (pc := 69) (len := 1) (i := 0) rfl rfl h
      replace h := eGetR (a := 138) (j := 700) (g := 139) hS (by decide) (by decide) rfl rfl rfl (mi := 101) (pc := 70) (len := 3) rfl h
      replace h := eIload (mi := 101) (pc := 73) (len := 1) (i := 1) rfl rfl h
      obtain ⟨b16, h⟩ := eIald (x := i) hS (a := 139) (by decide) (by decide) rfl (mi := 101) (pc := 74) (len := 1) rfl h
      rcases eIc (mi := 101) (pc := 75) (len := 3) (t := 82) rfl rfl h with ⟨c17, h⟩ | ⟨c17, h⟩
      · replace c17 : (iv M 139 i.toInt.toNat).toInt < ((iv M 139 j.toInt.toNat) + (iv M (143 + i.toInt.toNat) j.toInt.toNat)).toInt := mC_gt.1 c17
        replace h := eConst (mi := 101) (pc := 82) (len := 1) (v := 0) rfl h
        replace h := eIstore (mi := 101) (pc := 83) (len := 2) (i := 4) rfl (by decide) h
        replace h := eIload (mi := 101) (pc := 85) (len := 1) (i := 3) rfl rfl h
        rcases eIf (mi := 101) (pc := 86) (len := 3) (t := 120) rfl rfl h with ⟨c18, h⟩ | ⟨c18, h⟩
        · exact absurd c18 (by decide)
        · skip
          replace h := eIload (mi := 101) (pc := 89) (len := 2) (i := 4) rfl rfl h
          rcases eIf (mi := 101) (pc := 91) (len := 3) (t := 116) rfl rfl h with ⟨c19, h⟩ | ⟨c19, h⟩
          · exact absurd c19 (by decide)
          · skip
            replace h := eAload (mi := 101) (pc := 94) (len := 1) (i := 0) rfl rfl h
            replace h := eGetR (a := 138) (j := 700) (g := 139) hS (by decide) (by decide) rfl rfl rfl (mi := 101) (pc := 95) (len := 3) rfl h
            replace h := eIload (mi := 101) (pc := 98) (len := 1) (i := 2) rfl rfl h
            obtain ⟨b20, h⟩ := eIald (x := j) hS (a := 139) (by decide) (by decide) rfl (mi := 101) (pc := 99) (len := 1) rfl h
            replace h := eAload (mi := 101) (pc := 100) (len := 1) (i := 0) rfl rfl h
            replace h := eGetR (a := 138) (j := 702) (g := 141) hS (by decide) (by decide) rfl rfl rfl (mi := 101) (pc := 101) (len := 3) rfl h
            replace h := eIload (mi := 101) (pc := 104) (len := 1) (i := 2) rfl rfl h
            obtain ⟨b21, h⟩ := eIald (x := j) hS (a := 141) (by decide) (by decide) rfl (mi := 101) (pc := 105) (len := 1) rfl h
            replace h := eAdd (mi := 101) (pc := 106) (len := 1) rfl h
            replace h := eAload (mi := 101) (pc := 107) (len := 1) (i := 0) rfl rfl h
            replace h := eGetR (a := 138) (j := 700) (g := 139) hS (by decide) (by decide) rfl rfl rfl (mi := 101) (pc := 108) (len := 3) rfl h
            replace h := eIload (mi := 101) (pc := 111) (len := 1) (i := 1) rfl rfl h
            obtain ⟨b22, h⟩ := eIald (x := i) hS (a := 139) (by decide) (by decide) rfl (mi := 101) (pc := 112) (len := 1) rfl h
            rcases eIc (mi := 101) (pc := 113) (len := 3) (t := 120) rfl rfl h with ⟨c23, h⟩ | ⟨c23, h⟩
            · replace c23 : (iv M 139 i.toInt.toNat).toInt < ((iv M 139 j.toInt.toNat) + (iv M 141 j.toInt.toNat)).toInt := mC_gt.1 c23
              replace h := eConst (mi := 101) (pc := 120) (len := 1) (v := 0) rfl h
              obtain ⟨e1, e2⟩ := eRetI (mi := 101) (pc := 121) (len := 1) rfl h
              have hj := b1
              have hi := b2
              have hj : 0 ≤ j.toInt ∧ j.toInt.toNat < 8 := hj
              have hi : 0 ≤ i.toInt ∧ i.toInt.toNat < 8 := hi
              obtain ⟨_, ⟨dj0, dj1⟩, ⟨nj0, nj1⟩, _⟩ := hp j.toInt.toNat hj.2
              obtain ⟨_, ⟨di0, di1⟩, _, hh⟩ := hp i.toInt.toNat hi.2
              obtain ⟨h0, h1⟩ := hh j.toInt.toNat hj.2
              unfold wDy at dj0 dj1 di0 di1
              unfold wEn at nj0 nj1
              unfold wHe at h0 h1
              have s1 : (iv M 139 j.toInt.toNat + iv M (143 + i.toInt.toNat) j.toInt.toNat).toInt = (iv M 139 j.toInt.toNat).toInt + (iv M (143 + i.toInt.toNat) j.toInt.toNat).toInt := i32_add (by omega) (by omega)
              have s2 : (iv M 139 j.toInt.toNat + iv M 141 j.toInt.toNat).toInt = (iv M 139 j.toInt.toNat).toInt + (iv M 141 j.toInt.toNat).toInt := i32_add (by omega) (by omega)
              try rw [s1] at c3
              try rw [s2] at c3
              try rw [s1] at c6
              try rw [s2] at c6
              try rw [s1] at c17
              try rw [s2] at c17
              try rw [s1] at c23
              try rw [s2] at c23
              have e3 : wWd (wDy M) (wEn M) (wHe M) i.toInt.toNat j.toInt.toNat = false := by
                rw [← Bool.not_eq_true]
                intro q
                unfold wWd wAh wWr wDy wEn wHe at q
                simp only [Bool.and_eq_true, Bool.or_eq_true, decide_eq_true_iff] at q
                omega
              rw [e3]
              exact ⟨by omega, by omega, e1, e2⟩
            · replace c23 : ¬ (iv M 139 i.toInt.toNat).toInt < ((iv M 139 j.toInt.toNat) + (iv M 141 j.toInt.toNat)).toInt := mC_gt.2 c23
              replace h := eConst (mi := 101) (pc := 116) (len := 1) (v := 1) rfl h
              replace h := eGoto (mi := 101) (pc := 117) (len := 3) (t := 121) rfl rfl h
              obtain ⟨e1, e2⟩ := eRetI (mi := 101) (pc := 121) (len := 1) rfl h
              have hj := b1
              have hi := b2
              have hj : 0 ≤ j.toInt ∧ j.toInt.toNat < 8 := hj
              have hi : 0 ≤ i.toInt ∧ i.toInt.toNat < 8 := hi
              obtain ⟨_, ⟨dj0, dj1⟩, ⟨nj0, nj1⟩, _⟩ := hp j.toInt.toNat hj.2
              obtain ⟨_, ⟨di0, di1⟩, _, hh⟩ := hp i.toInt.toNat hi.2
              obtain ⟨h0, h1⟩ := hh j.toInt.toNat hj.2
              unfold wDy at dj0 dj1 di0 di1
              unfold wEn at nj0 nj1
              unfold wHe at h0 h1
              have s1 : (iv M 139 j.toInt.toNat + iv M (143 + i.toInt.toNat) j.toInt.toNat).toInt = (iv M 139 j.toInt.toNat).toInt + (iv M (143 + i.toInt.toNat) j.toInt.toNat).toInt := i32_add (by omega) (by omega)
              have s2 : (iv M 139 j.toInt.toNat + iv M 141 j.toInt.toNat).toInt = (iv M 139 j.toInt.toNat).toInt + (iv M 141 j.toInt.toNat).toInt := i32_add (by omega) (by omega)
              try rw [s1] at c3
              try rw [s2] at c3
              try rw [s1] at c6
              try rw [s2] at c6
              try rw [s1] at c17
              try rw [s2] at c17
              try rw [s1] at c23
              try rw [s2] at c23
              have e3 : wWd (wDy M) (wEn M) (wHe M) i.toInt.toNat j.toInt.toNat = true := by
                unfold wWd wAh wWr wDy wEn wHe
                simp only [Bool.and_eq_true, Bool.or_eq_true, decide_eq_true_iff]
                omega
              rw [e3]
              exact ⟨by omega, by omega, e1, e2⟩
      · replace c17 : ¬ (iv M 139 i.toInt.toNat).toInt < ((iv M 139 j.toInt.toNat) + (iv M (143 + i.toInt.toNat) j.toInt.toNat)).toInt := mC_gt.2 c17
        replace h := eConst (mi := 101) (pc := 78) (len := 1) (v := 1) rfl h
        replace h := eGoto (mi := 101) (pc := 79) (len := 3) (t := 83) rfl rfl h
        replace h := eIstore (mi := 101) (pc := 83) (len := 2) (i := 4) rfl (by decide) h
        replace h := eIload (mi := 101) (pc := 85) (len := 1) (i := 3) rfl rfl h
        rcases eIf (mi := 101) (pc := 86) (len := 3) (t := 120) rfl rfl h with ⟨c24, h⟩ | ⟨c24, h⟩
        · exact absurd c24 (by decide)
        · skip
          replace h := eIload (mi := 101) (pc := 89) (len := 2) (i := 4) rfl rfl h
          rcases eIf (mi := 101) (pc := 91) (len := 3) (t := 116) rfl rfl h with ⟨c25, h⟩ | ⟨c25, h⟩
          · skip
            replace h := eConst (mi := 101) (pc := 116) (len := 1) (v := 1) rfl h
            replace h := eGoto (mi := 101) (pc := 117) (len := 3) (t := 121) rfl rfl h
            obtain ⟨e1, e2⟩ := eRetI (mi := 101) (pc := 121) (len := 1) rfl h
            have hj := b1
            have hi := b2
            have hj : 0 ≤ j.toInt ∧ j.toInt.toNat < 8 := hj
            have hi : 0 ≤ i.toInt ∧ i.toInt.toNat < 8 := hi
            obtain ⟨_, ⟨dj0, dj1⟩, ⟨nj0, nj1⟩, _⟩ := hp j.toInt.toNat hj.2
            obtain ⟨_, ⟨di0, di1⟩, _, hh⟩ := hp i.toInt.toNat hi.2
            obtain ⟨h0, h1⟩ := hh j.toInt.toNat hj.2
            unfold wDy at dj0 dj1 di0 di1
            unfold wEn at nj0 nj1
            unfold wHe at h0 h1
            have s1 : (iv M 139 j.toInt.toNat + iv M (143 + i.toInt.toNat) j.toInt.toNat).toInt = (iv M 139 j.toInt.toNat).toInt + (iv M (143 + i.toInt.toNat) j.toInt.toNat).toInt := i32_add (by omega) (by omega)
            have s2 : (iv M 139 j.toInt.toNat + iv M 141 j.toInt.toNat).toInt = (iv M 139 j.toInt.toNat).toInt + (iv M 141 j.toInt.toNat).toInt := i32_add (by omega) (by omega)
            try rw [s1] at c3
            try rw [s2] at c3
            try rw [s1] at c6
            try rw [s2] at c6
            try rw [s1] at c17
            try rw [s2] at c17
            have e3 : wWd (wDy M) (wEn M) (wHe M) i.toInt.toNat j.toInt.toNat = true := by
              unfold wWd wAh wWr wDy wEn wHe
              simp only [Bool.and_eq_true, Bool.or_eq_true, decide_eq_true_iff]
              omega
            rw [e3]
            exact ⟨by omega, by omega, e1, e2⟩
          · exact absurd c25 (by decide)
  · replace c3 : ¬ (iv M 139 j.toInt.toNat).toInt < (iv M 139 i.toInt.toNat).toInt := mC_lt.2 c3
    replace h := eAload (mi := 101) (pc := 15) (len := 1) (i := 0) rfl rfl h
    replace h := eGetR (a := 138) (j := 700) (g := 139) hS (by decide) (by decide) rfl rfl rfl (mi := 101) (pc := 16) (len := 3) rfl h
    replace h := eIload (mi := 101) (pc := 19) (len := 1) (i := 2) rfl rfl h
    obtain ⟨b26, h⟩ := eIald (x := j) hS (a := 139) (by decide) (by decide) rfl (mi := 101) (pc := 20) (len := 1) rfl h
    replace h := eAload (mi := 101) (pc := 21) (len := 1) (i := 0) rfl rfl h
    replace h := eGetR (a := 138) (j := 700) (g := 139) hS (by decide) (by decide) rfl rfl rfl (mi := 101) (pc := 22) (len := 3) rfl h
    replace h := eIload (mi := 101) (pc := 25) (len := 1) (i := 1) rfl rfl h
    obtain ⟨b27, h⟩ := eIald (x := i) hS (a := 139) (by decide) (by decide) rfl (mi := 101) (pc := 26) (len := 1) rfl h
    rcases eIc (mi := 101) (pc := 27) (len := 3) (t := 39) rfl rfl h with ⟨c28, h⟩ | ⟨c28, h⟩
    · replace c28 : ¬ (iv M 139 j.toInt.toNat).toInt = (iv M 139 i.toInt.toNat).toInt := mC_ne.1 c28
      replace h := eConst (mi := 101) (pc := 39) (len := 1) (v := 0) rfl h
      replace h := eIstore (mi := 101) (pc := 40) (len := 1) (i := 3) rfl (by decide) h
      replace h := eAload (mi := 101) (pc := 41) (len := 1) (i := 0) rfl rfl h
      replace h := eGetR (a := 138) (j := 703) (g := 142) hS (by decide) (by decide) rfl rfl rfl (mi := 101) (pc := 42) (len := 3) rfl h
      replace h := eIload (mi := 101) (pc := 45) (len := 1) (i := 1) rfl rfl h
      obtain ⟨b29, h⟩ := eRow (x := i) hS hR8 (mi := 101) (pc := 46) (len := 1) rfl h
      replace h := eIload (mi := 101) (pc := 47) (len := 1) (i := 2) rfl rfl h
      obtain ⟨b30, h⟩ := eIald (x := j) hS (a := (143 + i.toInt.toNat)) (row_p b29.2).1 (row_p b29.2).2.1 ((row_p b29.2).2.2 _) (mi := 101) (pc := 48) (len := 1) rfl h
      replace h := eConst (mi := 101) (pc := 49) (len := 2) (v := 100) rfl h
      rcases eIc (mi := 101) (pc := 51) (len := 3) (t := 82) rfl rfl h with ⟨c31, h⟩ | ⟨c31, h⟩
      · replace c31 : ¬ (iv M (143 + i.toInt.toNat) j.toInt.toNat).toInt < 100 := mC_ge.1 c31
        replace h := eConst (mi := 101) (pc := 82) (len := 1) (v := 0) rfl h
        replace h := eIstore (mi := 101) (pc := 83) (len := 2) (i := 4) rfl (by decide) h
        replace h := eIload (mi := 101) (pc := 85) (len := 1) (i := 3) rfl rfl h
        rcases eIf (mi := 101) (pc := 86) (len := 3) (t := 120) rfl rfl h with ⟨c32, h⟩ | ⟨c32, h⟩
        · skip
          replace h := eConst (mi := 101) (pc := 120) (len := 1) (v := 0) rfl h
          obtain ⟨e1, e2⟩ := eRetI (mi := 101) (pc := 121) (len := 1) rfl h
          have hj := b1
          have hi := b2
          have hj : 0 ≤ j.toInt ∧ j.toInt.toNat < 8 := hj
          have hi : 0 ≤ i.toInt ∧ i.toInt.toNat < 8 := hi
          obtain ⟨_, ⟨dj0, dj1⟩, ⟨nj0, nj1⟩, _⟩ := hp j.toInt.toNat hj.2
          obtain ⟨_, ⟨di0, di1⟩, _, hh⟩ := hp i.toInt.toNat hi.2
          obtain ⟨h0, h1⟩ := hh j.toInt.toNat hj.2
          unfold wDy at dj0 dj1 di0 di1
          unfold wEn at nj0 nj1
          unfold wHe at h0 h1
          have s1 : (iv M 139 j.toInt.toNat + iv M (143 + i.toInt.toNat) j.toInt.toNat).toInt = (iv M 139 j.toInt.toNat).toInt + (iv M (143 + i.toInt.toNat) j.toInt.toNat).toInt := i32_add (by omega) (by omega)
          have s2 : (iv M 139 j.toInt.toNat + iv M 141 j.toInt.toNat).toInt = (iv M 139 j.toInt.toNat).toInt + (iv M 141 j.toInt.toNat).toInt := i32_add (by omega) (by omega)
          try rw [s1] at c3
          try rw [s2] at c3
          try rw [s1] at c28
          try rw [s2] at c28
          try rw [s1] at c31
          try rw [s2] at c31
          have e3 : wWd (wDy M) (wEn M) (wHe M) i.toInt.toNat j.toInt.toNat = false := by
            rw [← Bool.not_eq_true]
            intro q
            unfold wWd wAh wWr wDy wEn wHe at q
            simp only [Bool.and_eq_true, Bool.or_eq_true, decide_eq_true_iff] at q
            omega
          rw [e3]
          exact ⟨by omega, by omega, e1, e2⟩
        · exact absurd c32 (by decide)
      · replace c31 : (iv M (143 + i.toInt.toNat) j.toInt.toNat).toInt < 100 := mC_ge.2 c31
        replace h := eAload (mi := 101) (pc := 54) (len := 1) (i := 0) rfl rfl h
        replace h := eGetR (a := 138) (j := 700) (g := 139) hS (by decide) (by decide) rfl rfl rfl (mi := 101) (pc := 55) (len := 3) rfl h
        replace h := eIload (mi := 101) (pc := 58) (len := 1) (i := 2) rfl rfl h
        obtain ⟨b33, h⟩ := eIald (x := j) hS (a := 139) (by decide) (by decide) rfl (mi := 101) (pc := 59) (len := 1) rfl h
        replace h := eAload (mi := 101) (pc := 60) (len := 1) (i := 0) rfl rfl h
        replace h := eGetR (a := 138) (j := 703) (g := 142) hS (by decide) (by decide) rfl rfl rfl (mi := 101) (pc := 61) (len := 3) rfl h
        replace h := eIload (mi := 101) (pc := 64) (len := 1) (i := 1) rfl rfl h
        obtain ⟨b34, h⟩ := eRow (x := i) hS hR8 (mi := 101) (pc := 65) (len := 1) rfl h
        replace h := eIload (mi := 101) (pc := 66) (len := 1) (i := 2) rfl rfl h
        obtain ⟨b35, h⟩ := eIald (x := j) hS (a := (143 + i.toInt.toNat)) (row_p b34.2).1 (row_p b34.2).2.1 ((row_p b34.2).2.2 _) (mi := 101) (pc := 67) (len := 1) rfl h
        replace h := eAdd (mi := 101) (pc := 68) (len := 1) rfl h
        replace h := eAload (mi := 101) (pc := 69) (len := 1) (i := 0) rfl rfl h
        replace h := eGetR (a := 138) (j := 700) (g := 139) hS (by decide) (by decide) rfl rfl rfl (mi := 101) (pc := 70) (len := 3) rfl h
        replace h := eIload (mi := 101) (pc := 73) (len := 1) (i := 1) rfl rfl h
        obtain ⟨b36, h⟩ := eIald (x := i) hS (a := 139) (by decide) (by decide) rfl (mi := 101) (pc := 74) (len := 1) rfl h
        rcases eIc (mi := 101) (pc := 75) (len := 3) (t := 82) rfl rfl h with ⟨c37, h⟩ | ⟨c37, h⟩
        · replace c37 : (iv M 139 i.toInt.toNat).toInt < ((iv M 139 j.toInt.toNat) + (iv M (143 + i.toInt.toNat) j.toInt.toNat)).toInt := mC_gt.1 c37
          replace h := eConst (mi := 101) (pc := 82) (len := 1) (v := 0) rfl h
          replace h := eIstore (mi := 101) (pc := 83) (len := 2) (i := 4) rfl (by decide) h
          replace h := eIload (mi := 101) (pc := 85) (len := 1) (i := 3) rfl rfl h
          rcases eIf (mi := 101) (pc := 86) (len := 3) (t := 120) rfl rfl h with ⟨c38, h⟩ | ⟨c38, h⟩
          · skip
            replace h := eConst (mi := 101) (pc := 120) (len := 1) (v := 0) rfl h
            obtain ⟨e1, e2⟩ := eRetI (mi := 101) (pc := 121) (len := 1) rfl h
            have hj := b1
            have hi := b2
            have hj : 0 ≤ j.toInt ∧ j.toInt.toNat < 8 := hj
            have hi : 0 ≤ i.toInt ∧ i.toInt.toNat < 8 := hi
            obtain ⟨_, ⟨dj0, dj1⟩, ⟨nj0, nj1⟩, _⟩ := hp j.toInt.toNat hj.2
            obtain ⟨_, ⟨di0, di1⟩, _, hh⟩ := hp i.toInt.toNat hi.2
            obtain ⟨h0, h1⟩ := hh j.toInt.toNat hj.2
            unfold wDy at dj0 dj1 di0 di1
            unfold wEn at nj0 nj1
            unfold wHe at h0 h1
            have s1 : (iv M 139 j.toInt.toNat + iv M (143 + i.toInt.toNat) j.toInt.toNat).toInt = (iv M 139 j.toInt.toNat).toInt + (iv M (143 + i.toInt.toNat) j.toInt.toNat).toInt := i32_add (by omega) (by omega)
            have s2 : (iv M 139 j.toInt.toNat + iv M 141 j.toInt.toNat).toInt = (iv M 139 j.toInt.toNat).toInt + (iv M 141 j.toInt.toNat).toInt := i32_add (by omega) (by omega)
            try rw [s1] at c3
            try rw [s2] at c3
            try rw [s1] at c28
            try rw [s2] at c28
            try rw [s1] at c31
            try rw [s2] at c31
            try rw [s1] at c37
            try rw [s2] at c37
            have e3 : wWd (wDy M) (wEn M) (wHe M) i.toInt.toNat j.toInt.toNat = false := by
              rw [← Bool.not_eq_true]
              intro q
              unfold wWd wAh wWr wDy wEn wHe at q
              simp only [Bool.and_eq_true, Bool.or_eq_true, decide_eq_true_iff] at q
              omega
            rw [e3]
            exact ⟨by omega, by omega, e1, e2⟩
          · exact absurd c38 (by decide)
        · replace c37 : ¬ (iv M 139 i.toInt.toNat).toInt < ((iv M 139 j.toInt.toNat) + (iv M (143 + i.toInt.toNat) j.toInt.toNat)).toInt := mC_gt.2 c37
          replace h := eConst (mi := 101) (pc := 78) (len := 1) (v := 1) rfl h
          replace h := eGoto (mi := 101) (pc := 79) (len := 3) (t := 83) rfl rfl h
          replace h := eIstore (mi := 101) (pc := 83) (len := 2) (i := 4) rfl (by decide) h
          replace h := eIload (mi := 101) (pc := 85) (len := 1) (i := 3) rfl rfl h
          rcases eIf (mi := 101) (pc := 86) (len := 3) (t := 120) rfl rfl h with ⟨c39, h⟩ | ⟨c39, h⟩
          · skip
            replace h := eConst (mi := 101) (pc := 120) (len := 1) (v := 0) rfl h
            obtain ⟨e1, e2⟩ := eRetI (mi := 101) (pc := 121) (len := 1) rfl h
            have hj := b1
            have hi := b2
            have hj : 0 ≤ j.toInt ∧ j.toInt.toNat < 8 := hj
            have hi : 0 ≤ i.toInt ∧ i.toInt.toNat < 8 := hi
            obtain ⟨_, ⟨dj0, dj1⟩, ⟨nj0, nj1⟩, _⟩ := hp j.toInt.toNat hj.2
            obtain ⟨_, ⟨di0, di1⟩, _, hh⟩ := hp i.toInt.toNat hi.2
            obtain ⟨h0, h1⟩ := hh j.toInt.toNat hj.2
            unfold wDy at dj0 dj1 di0 di1
            unfold wEn at nj0 nj1
            unfold wHe at h0 h1
            have s1 : (iv M 139 j.toInt.toNat + iv M (143 + i.toInt.toNat) j.toInt.toNat).toInt = (iv M 139 j.toInt.toNat).toInt + (iv M (143 + i.toInt.toNat) j.toInt.toNat).toInt := i32_add (by omega) (by omega)
            have s2 : (iv M 139 j.toInt.toNat + iv M 141 j.toInt.toNat).toInt = (iv M 139 j.toInt.toNat).toInt + (iv M 141 j.toInt.toNat).toInt := i32_add (by omega) (by omega)
            try rw [s1] at c3
            try rw [s2] at c3
            try rw [s1] at c28
            try rw [s2] at c28
            try rw [s1] at c31
            try rw [s2] at c31
            try rw [s1] at c37
            try rw [s2] at c37
            have e3 : wWd (wDy M) (wEn M) (wHe M) i.toInt.toNat j.toInt.toNat = false := by
              rw [← Bool.not_eq_true]
              intro q
              unfold wWd wAh wWr wDy wEn wHe at q
              simp only [Bool.and_eq_true, Bool.or_eq_true, decide_eq_true_iff] at q
              omega
            rw [e3]
            exact ⟨by omega, by omega, e1, e2⟩
          · exact absurd c39 (by decide)
    · replace c28 : (iv M 139 j.toInt.toNat).toInt = (iv M 139 i.toInt.toNat).toInt := mC_ne.2 c28
      replace h := eIload (mi := 101) (pc := 30) (len := 1) (i := 2) rfl rfl h
      replace h := eIload (mi := 101) (pc := 31) (len := 1) (i := 1) rfl rfl h
      rcases eIc (mi := 101) (pc := 32) (len := 3) (t := 39) rfl rfl h with ⟨c40, h⟩ | ⟨c40, h⟩
      · replace c40 : ¬ j.toInt < i.toInt := mC_ge.1 c40
        replace h := eConst (mi := 101) (pc := 39) (len := 1) (v := 0) rfl h
        replace h := eIstore (mi := 101) (pc := 40) (len := 1) (i := 3) rfl (by decide) h
        replace h := eAload (mi := 101) (pc := 41) (len := 1) (i := 0) rfl rfl h
        replace h := eGetR (a := 138) (j := 703) (g := 142) hS (by decide) (by decide) rfl rfl rfl (mi := 101) (pc := 42) (len := 3) rfl h
        replace h := eIload (mi := 101) (pc := 45) (len := 1) (i := 1) rfl rfl h
        obtain ⟨b41, h⟩ := eRow (x := i) hS hR8 (mi := 101) (pc := 46) (len := 1) rfl h
        replace h := eIload (mi := 101) (pc := 47) (len := 1) (i := 2) rfl rfl h
        obtain ⟨b42, h⟩ := eIald (x := j) hS (a := (143 + i.toInt.toNat)) (row_p b41.2).1 (row_p b41.2).2.1 ((row_p b41.2).2.2 _) (mi := 101) (pc := 48) (len := 1) rfl h
        replace h := eConst (mi := 101) (pc := 49) (len := 2) (v := 100) rfl h
        rcases eIc (mi := 101) (pc := 51) (len := 3) (t := 82) rfl rfl h with ⟨c43, h⟩ | ⟨c43, h⟩
        · replace c43 : ¬ (iv M (143 + i.toInt.toNat) j.toInt.toNat).toInt < 100 := mC_ge.1 c43
          replace h := eConst (mi := 101) (pc := 82) (len := 1) (v := 0) rfl h
          replace h := eIstore (mi := 101) (pc := 83) (len := 2) (i := 4) rfl (by decide) h
          replace h := eIload (mi := 101) (pc := 85) (len := 1) (i := 3) rfl rfl h
          rcases eIf (mi := 101) (pc := 86) (len := 3) (t := 120) rfl rfl h with ⟨c44, h⟩ | ⟨c44, h⟩
          · skip
            replace h := eConst (mi := 101) (pc := 120) (len := 1) (v := 0) rfl h
            obtain ⟨e1, e2⟩ := eRetI (mi := 101) (pc := 121) (len := 1) rfl h
            have hj := b1
            have hi := b2
            have hj : 0 ≤ j.toInt ∧ j.toInt.toNat < 8 := hj
            have hi : 0 ≤ i.toInt ∧ i.toInt.toNat < 8 := hi
            obtain ⟨_, ⟨dj0, dj1⟩, ⟨nj0, nj1⟩, _⟩ := hp j.toInt.toNat hj.2
            obtain ⟨_, ⟨di0, di1⟩, _, hh⟩ := hp i.toInt.toNat hi.2
            obtain ⟨h0, h1⟩ := hh j.toInt.toNat hj.2
            unfold wDy at dj0 dj1 di0 di1
            unfold wEn at nj0 nj1
            unfold wHe at h0 h1
            have s1 : (iv M 139 j.toInt.toNat + iv M (143 + i.toInt.toNat) j.toInt.toNat).toInt = (iv M 139 j.toInt.toNat).toInt + (iv M (143 + i.toInt.toNat) j.toInt.toNat).toInt := i32_add (by omega) (by omega)
            have s2 : (iv M 139 j.toInt.toNat + iv M 141 j.toInt.toNat).toInt = (iv M 139 j.toInt.toNat).toInt + (iv M 141 j.toInt.toNat).toInt := i32_add (by omega) (by omega)
            try rw [s1] at c3
            try rw [s2] at c3
            try rw [s1] at c28
            try rw [s2] at c28
            try rw [s1] at c40
            try rw [s2] at c40
            try rw [s1] at c43
            try rw [s2] at c43
            have e3 : wWd (wDy M) (wEn M) (wHe M) i.toInt.toNat j.toInt.toNat = false := by
              rw [← Bool.not_eq_true]
              intro q
              unfold wWd wAh wWr wDy wEn wHe at q
              simp only [Bool.and_eq_true, Bool.or_eq_true, decide_eq_true_iff] at q
              omega
            rw [e3]
            exact ⟨by omega, by omega, e1, e2⟩
          · exact absurd c44 (by decide)
        · replace c43 : (iv M (143 + i.toInt.toNat) j.toInt.toNat).toInt < 100 := mC_ge.2 c43
          replace h := eAload (mi := 101) (pc := 54) (len := 1) (i := 0) rfl rfl h
          replace h := eGetR (a := 138) (j := 700) (g := 139) hS (by decide) (by decide) rfl rfl rfl (mi := 101) (pc := 55) (len := 3) rfl h
          replace h := eIload (mi := 101) (pc := 58) (len := 1) (i := 2) rfl rfl h
          obtain ⟨b45, h⟩ := eIald (x := j) hS (a := 139) (by decide) (by decide) rfl (mi := 101) (pc := 59) (len := 1) rfl h
          replace h := eAload (mi := 101) (pc := 60) (len := 1) (i := 0) rfl rfl h
          replace h := eGetR (a := 138) (j := 703) (g := 142) hS (by decide) (by decide) rfl rfl rfl (mi := 101) (pc := 61) (len := 3) rfl h
          replace h := eIload (mi := 101) (pc := 64) (len := 1) (i := 1) rfl rfl h
          obtain ⟨b46, h⟩ := eRow (x := i) hS hR8 (mi := 101) (pc := 65) (len := 1) rfl h
          replace h := eIload (mi := 101) (pc := 66) (len := 1) (i := 2) rfl rfl h
          obtain ⟨b47, h⟩ := eIald (x := j) hS (a := (143 + i.toInt.toNat)) (row_p b46.2).1 (row_p b46.2).2.1 ((row_p b46.2).2.2 _) (mi := 101) (pc := 67) (len := 1) rfl h
          replace h := eAdd (mi := 101) (pc := 68) (len := 1) rfl h
          replace h := eAload (mi := 101) (pc := 69) (len := 1) (i := 0) rfl rfl h
          replace h := eGetR (a := 138) (j := 700) (g := 139) hS (by decide) (by decide) rfl rfl rfl (mi := 101) (pc := 70) (len := 3) rfl h
          replace h := eIload (mi := 101) (pc := 73) (len := 1) (i := 1) rfl rfl h
          obtain ⟨b48, h⟩ := eIald (x := i) hS (a := 139) (by decide) (by decide) rfl (mi := 101) (pc := 74) (len := 1) rfl h
          rcases eIc (mi := 101) (pc := 75) (len := 3) (t := 82) rfl rfl h with ⟨c49, h⟩ | ⟨c49, h⟩
          · replace c49 : (iv M 139 i.toInt.toNat).toInt < ((iv M 139 j.toInt.toNat) + (iv M (143 + i.toInt.toNat) j.toInt.toNat)).toInt := mC_gt.1 c49
            replace h := eConst (mi := 101) (pc := 82) (len := 1) (v := 0) rfl h
            replace h := eIstore (mi := 101) (pc := 83) (len := 2) (i := 4) rfl (by decide) h
            replace h := eIload (mi := 101) (pc := 85) (len := 1) (i := 3) rfl rfl h
            rcases eIf (mi := 101) (pc := 86) (len := 3) (t := 120) rfl rfl h with ⟨c50, h⟩ | ⟨c50, h⟩
            · skip
              replace h := eConst (mi := 101) (pc := 120) (len := 1) (v := 0) rfl h
              obtain ⟨e1, e2⟩ := eRetI (mi := 101) (pc := 121) (len := 1) rfl h
              have hj := b1
              have hi := b2
              have hj : 0 ≤ j.toInt ∧ j.toInt.toNat < 8 := hj
              have hi : 0 ≤ i.toInt ∧ i.toInt.toNat < 8 := hi
              obtain ⟨_, ⟨dj0, dj1⟩, ⟨nj0, nj1⟩, _⟩ := hp j.toInt.toNat hj.2
              obtain ⟨_, ⟨di0, di1⟩, _, hh⟩ := hp i.toInt.toNat hi.2
              obtain ⟨h0, h1⟩ := hh j.toInt.toNat hj.2
              unfold wDy at dj0 dj1 di0 di1
              unfold wEn at nj0 nj1
              unfold wHe at h0 h1
              have s1 : (iv M 139 j.toInt.toNat + iv M (143 + i.toInt.toNat) j.toInt.toNat).toInt = (iv M 139 j.toInt.toNat).toInt + (iv M (143 + i.toInt.toNat) j.toInt.toNat).toInt := i32_add (by omega) (by omega)
              have s2 : (iv M 139 j.toInt.toNat + iv M 141 j.toInt.toNat).toInt = (iv M 139 j.toInt.toNat).toInt + (iv M 141 j.toInt.toNat).toInt := i32_add (by omega) (by omega)
              try rw [s1] at c3
              try rw [s2] at c3
              try rw [s1] at c28
              try rw [s2] at c28
              try rw [s1] at c40
              try rw [s2] at c40
              try rw [s1] at c43
              try rw [s2] at c43
              try rw [s1] at c49
              try rw [s2] at c49
              have e3 : wWd (wDy M) (wEn M) (wHe M) i.toInt.toNat j.toInt.toNat = false := by
                rw [← Bool.not_eq_true]
                intro q
                unfold wWd wAh wWr wDy wEn wHe at q
                simp only [Bool.and_eq_true, Bool.or_eq_true, decide_eq_true_iff] at q
                omega
              rw [e3]
              exact ⟨by omega, by omega, e1, e2⟩
            · exact absurd c50 (by decide)
          · replace c49 : ¬ (iv M 139 i.toInt.toNat).toInt < ((iv M 139 j.toInt.toNat) + (iv M (143 + i.toInt.toNat) j.toInt.toNat)).toInt := mC_gt.2 c49
            replace h := eConst (mi := 101) (pc := 78) (len := 1) (v := 1) rfl h
            replace h := eGoto (mi := 101) (pc := 79) (len := 3) (t := 83) rfl rfl h
            replace h := eIstore (mi := 101) (pc := 83) (len := 2) (i := 4) rfl (by decide) h
            replace h := eIload (mi := 101) (pc := 85) (len := 1) (i := 3) rfl rfl h
            rcases eIf (mi := 101) (pc := 86) (len := 3) (t := 120) rfl rfl h with ⟨c51, h⟩ | ⟨c51, h⟩
            · skip
              replace h := eConst (mi := 101) (pc := 120) (len := 1) (v := 0) rfl h
              obtain ⟨e1, e2⟩ := eRetI (mi := 101) (pc := 121) (len := 1) rfl h
              have hj := b1
              have hi := b2
              have hj : 0 ≤ j.toInt ∧ j.toInt.toNat < 8 := hj
              have hi : 0 ≤ i.toInt ∧ i.toInt.toNat < 8 := hi
              obtain ⟨_, ⟨dj0, dj1⟩, ⟨nj0, nj1⟩, _⟩ := hp j.toInt.toNat hj.2
              obtain ⟨_, ⟨di0, di1⟩, _, hh⟩ := hp i.toInt.toNat hi.2
              obtain ⟨h0, h1⟩ := hh j.toInt.toNat hj.2
              unfold wDy at dj0 dj1 di0 di1
              unfold wEn at nj0 nj1
              unfold wHe at h0 h1
              have s1 : (iv M 139 j.toInt.toNat + iv M (143 + i.toInt.toNat) j.toInt.toNat).toInt = (iv M 139 j.toInt.toNat).toInt + (iv M (143 + i.toInt.toNat) j.toInt.toNat).toInt := i32_add (by omega) (by omega)
              have s2 : (iv M 139 j.toInt.toNat + iv M 141 j.toInt.toNat).toInt = (iv M 139 j.toInt.toNat).toInt + (iv M 141 j.toInt.toNat).toInt := i32_add (by omega) (by omega)
              try rw [s1] at c3
              try rw [s2] at c3
              try rw [s1] at c28
              try rw [s2] at c28
              try rw [s1] at c40
              try rw [s2] at c40
              try rw [s1] at c43
              try rw [s2] at c43
              try rw [s1] at c49
              try rw [s2] at c49
              have e3 : wWd (wDy M) (wEn M) (wHe M) i.toInt.toNat j.toInt.toNat = false := by
                rw [← Bool.not_eq_true]
                intro q
                unfold wWd wAh wWr wDy wEn wHe at q
                simp only [Bool.and_eq_true, Bool.or_eq_true, decide_eq_true_iff] at q
                omega
              rw [e3]
              exact ⟨by omega, by omega, e1, e2⟩
            · exact absurd c51 (by decide)
      · replace c40 : j.toInt < i.toInt := mC_ge.2 c40
        replace h := eConst (mi := 101) (pc := 35) (len := 1) (v := 1) rfl h
        replace h := eGoto (mi := 101) (pc := 36) (len := 3) (t := 40) rfl rfl h
        replace h := eIstore (mi := 101) (pc := 40) (len := 1) (i := 3) rfl (by decide) h
        replace h := eAload (mi := 101) (pc := 41) (len := 1) (i := 0) rfl rfl h
        replace h := eGetR (a := 138) (j := 703) (g := 142) hS (by decide) (by decide) rfl rfl rfl (mi := 101) (pc := 42) (len := 3) rfl h
        replace h := eIload (mi := 101) (pc := 45) (len := 1) (i := 1) rfl rfl h
        obtain ⟨b52, h⟩ := eRow (x := i) hS hR8 (mi := 101) (pc := 46) (len := 1) rfl h
        replace h := eIload (mi := 101) (pc := 47) (len := 1) (i := 2) rfl rfl h
        obtain ⟨b53, h⟩ := eIald (x := j) hS (a := (143 + i.toInt.toNat)) (row_p b52.2).1 (row_p b52.2).2.1 ((row_p b52.2).2.2 _) (mi := 101) (pc := 48) (len := 1) rfl h
        replace h := eConst (mi := 101) (pc := 49) (len := 2) (v := 100) rfl h
        rcases eIc (mi := 101) (pc := 51) (len := 3) (t := 82) rfl rfl h with ⟨c54, h⟩ | ⟨c54, h⟩
        · replace c54 : ¬ (iv M (143 + i.toInt.toNat) j.toInt.toNat).toInt < 100 := mC_ge.1 c54
          replace h := eConst (mi := 101) (pc := 82) (len := 1) (v := 0) rfl h
          replace h := eIstore (mi := 101) (pc := 83) (len := 2) (i := 4) rfl (by decide) h
          replace h := eIload (mi := 101) (pc := 85) (len := 1) (i := 3) rfl rfl h
          rcases eIf (mi := 101) (pc := 86) (len := 3) (t := 120) rfl rfl h with ⟨c55, h⟩ | ⟨c55, h⟩
          · exact absurd c55 (by decide)
          · skip
            replace h := eIload (mi := 101) (pc := 89) (len := 2) (i := 4) rfl rfl h
            rcases eIf (mi := 101) (pc := 91) (len := 3) (t := 116) rfl rfl h with ⟨c56, h⟩ | ⟨c56, h⟩
            · exact absurd c56 (by decide)
            · skip
              replace h := eAload (mi := 101) (pc := 94) (len := 1) (i := 0) rfl rfl h
              replace h := eGetR (a := 138) (j := 700) (g := 139) hS (by decide) (by decide) rfl rfl rfl (mi := 101) (pc := 95) (len := 3) rfl h
              replace h := eIload (mi := 101) (pc := 98) (len := 1) (i := 2) rfl rfl h
              obtain ⟨b57, h⟩ := eIald (x := j) hS (a := 139) (by decide) (by decide) rfl (mi := 101) (pc := 99) (len := 1) rfl h
              replace h := eAload (mi := 101) (pc := 100) (len := 1) (i := 0) rfl rfl h
              replace h := eGetR (a := 138) (j := 702) (g := 141) hS (by decide) (by decide) rfl rfl rfl (mi := 101) (pc := 101) (len := 3) rfl h
              replace h := eIload (mi := 101) (pc := 104) (len := 1) (i := 2) rfl rfl h
              obtain ⟨b58, h⟩ := eIald (x := j) hS (a := 141) (by decide) (by decide) rfl (mi := 101) (pc := 105) (len := 1) rfl h
              replace h := eAdd (mi := 101) (pc := 106) (len := 1) rfl h
              replace h := eAload (mi := 101) (pc := 107) (len := 1) (i := 0) rfl rfl h
              replace h := eGetR (a := 138) (j := 700) (g := 139) hS (by decide) (by decide) rfl rfl rfl (mi := 101) (pc := 108) (len := 3) rfl h
              replace h := eIload (mi := 101) (pc := 111) (len := 1) (i := 1) rfl rfl h
              obtain ⟨b59, h⟩ := eIald (x := i) hS (a := 139) (by decide) (by decide) rfl (mi := 101) (pc := 112) (len := 1) rfl h
              rcases eIc (mi := 101) (pc := 113) (len := 3) (t := 120) rfl rfl h with ⟨c60, h⟩ | ⟨c60, h⟩
              · replace c60 : (iv M 139 i.toInt.toNat).toInt < ((iv M 139 j.toInt.toNat) + (iv M 141 j.toInt.toNat)).toInt := mC_gt.1 c60
                replace h := eConst (mi := 101) (pc := 120) (len := 1) (v := 0) rfl h
                obtain ⟨e1, e2⟩ := eRetI (mi := 101) (pc := 121) (len := 1) rfl h
                have hj := b1
                have hi := b2
                have hj : 0 ≤ j.toInt ∧ j.toInt.toNat < 8 := hj
                have hi : 0 ≤ i.toInt ∧ i.toInt.toNat < 8 := hi
                obtain ⟨_, ⟨dj0, dj1⟩, ⟨nj0, nj1⟩, _⟩ := hp j.toInt.toNat hj.2
                obtain ⟨_, ⟨di0, di1⟩, _, hh⟩ := hp i.toInt.toNat hi.2
                obtain ⟨h0, h1⟩ := hh j.toInt.toNat hj.2
                unfold wDy at dj0 dj1 di0 di1
                unfold wEn at nj0 nj1
                unfold wHe at h0 h1
                have s1 : (iv M 139 j.toInt.toNat + iv M (143 + i.toInt.toNat) j.toInt.toNat).toInt = (iv M 139 j.toInt.toNat).toInt + (iv M (143 + i.toInt.toNat) j.toInt.toNat).toInt := i32_add (by omega) (by omega)
                have s2 : (iv M 139 j.toInt.toNat + iv M 141 j.toInt.toNat).toInt = (iv M 139 j.toInt.toNat).toInt + (iv M 141 j.toInt.toNat).toInt := i32_add (by omega) (by omega)
                try rw [s1] at c3
                try rw [s2] at c3
                try rw [s1] at c28
                try rw [s2] at c28
                try rw [s1] at c40
                try rw [s2] at c40
                try rw [s1] at c54
                try rw [s2] at c54
                try rw [s1] at c60
                try rw [s2] at c60
                have e3 : wWd (wDy M) (wEn M) (wHe M) i.toInt.toNat j.toInt.toNat = false := by
                  rw [← Bool.not_eq_true]
                  intro q
                  unfold wWd wAh wWr wDy wEn wHe at q
                  simp only [Bool.and_eq_true, Bool.or_eq_true, decide_eq_true_iff] at q
                  omega
                rw [e3]
                exact ⟨by omega, by omega, e1, e2⟩
              · replace c60 : ¬ (iv M 139 i.toInt.toNat).toInt < ((iv M 139 j.toInt.toNat) + (iv M 141 j.toInt.toNat)).toInt := mC_gt.2 c60
                replace h := eConst (mi := 101) (pc := 116) (len := 1) (v := 1) rfl h
                replace h := eGoto (mi := 101) (pc := 117) (len := 3) (t := 121) rfl rfl h
                obtain ⟨e1, e2⟩ := eRetI (mi := 101) (pc := 121) (len := 1) rfl h
                have hj := b1
                have hi := b2
                have hj : 0 ≤ j.toInt ∧ j.toInt.toNat < 8 := hj
                have hi : 0 ≤ i.toInt ∧ i.toInt.toNat < 8 := hi
                obtain ⟨_, ⟨dj0, dj1⟩, ⟨nj0, nj1⟩, _⟩ := hp j.toInt.toNat hj.2
                obtain ⟨_, ⟨di0, di1⟩, _, hh⟩ := hp i.toInt.toNat hi.2
                obtain ⟨h0, h1⟩ := hh j.toInt.toNat hj.2
                unfold wDy at dj0 dj1 di0 di1
                unfold wEn at nj0 nj1
                unfold wHe at h0 h1
                have s1 : (iv M 139 j.toInt.toNat + iv M (143 + i.toInt.toNat) j.toInt.toNat).toInt = (iv M 139 j.toInt.toNat).toInt + (iv M (143 + i.toInt.toNat) j.toInt.toNat).toInt := i32_add (by omega) (by omega)
                have s2 : (iv M 139 j.toInt.toNat + iv M 141 j.toInt.toNat).toInt = (iv M 139 j.toInt.toNat).toInt + (iv M 141 j.toInt.toNat).toInt := i32_add (by omega) (by omega)
                try rw [s1] at c3
                try rw [s2] at c3
                try rw [s1] at c28
                try rw [s2] at c28
                try rw [s1] at c40
                try rw [s2] at c40
                try rw [s1] at c54
                try rw [s2] at c54
                try rw [s1] at c60
                try rw [s2] at c60
                have e3 : wWd (wDy M) (wEn M) (wHe M) i.toInt.toNat j.toInt.toNat = true := by
                  unfold wWd wAh wWr wDy wEn wHe
                  simp only [Bool.and_eq_true, Bool.or_eq_true, decide_eq_true_iff]
                  omega
                rw [e3]
                exact ⟨by omega, by omega, e1, e2⟩
        · replace c54 : (iv M (143 + i.toInt.toNat) j.toInt.toNat).toInt < 100 := mC_ge.2 c54
          replace h := eAload (mi := 101) (pc := 54) (len := 1) (i := 0) rfl rfl h
          replace h := eGetR (a := 138) (j := 700) (g := 139) hS (by decide) (by decide) rfl rfl rfl (mi := 101) (pc := 55) (len := 3) rfl h
          replace h := eIload (mi := 101) (pc := 58) (len := 1) (i := 2) rfl rfl h
          obtain ⟨b61, h⟩ := eIald (x := j) hS (a := 139) (by decide) (by decide) rfl (mi := 101) (pc := 59) (len := 1) rfl h
          replace h := eAload (mi := 101) (pc := 60) (len := 1) (i := 0) rfl rfl h
          replace h := eGetR (a := 138) (j := 703) (g := 142) hS (by decide) (by decide) rfl rfl rfl (mi := 101) (pc := 61) (len := 3) rfl h
          replace h := eIload (mi := 101) (pc := 64) (len := 1) (i := 1) rfl rfl h
          obtain ⟨b62, h⟩ := eRow (x := i) hS hR8 (mi := 101) (pc := 65) (len := 1) rfl h
          replace h := eIload (mi := 101) (pc := 66) (len := 1) (i := 2) rfl rfl h
          obtain ⟨b63, h⟩ := eIald (x := j) hS (a := (143 + i.toInt.toNat)) (row_p b62.2).1 (row_p b62.2).2.1 ((row_p b62.2).2.2 _) (mi := 101) (pc := 67) (len := 1) rfl h
          replace h := eAdd (mi := 101) (pc := 68) (len := 1) rfl h
          replace h := eAload (mi := 101) (pc := 69) (len := 1) (i := 0) rfl rfl h
          replace h := eGetR (a := 138) (j := 700) (g := 139) hS (by decide) (by decide) rfl rfl rfl (mi := 101) (pc := 70) (len := 3) rfl h
          replace h := eIload (mi := 101) (pc := 73) (len := 1) (i := 1) rfl rfl h
          obtain ⟨b64, h⟩ := eIald (x := i) hS (a := 139) (by decide) (by decide) rfl (mi := 101) (pc := 74) (len := 1) rfl h
          rcases eIc (mi := 101) (pc := 75) (len := 3) (t := 82) rfl rfl h with ⟨c65, h⟩ | ⟨c65, h⟩
          · replace c65 : (iv M 139 i.toInt.toNat).toInt < ((iv M 139 j.toInt.toNat) + (iv M (143 + i.toInt.toNat) j.toInt.toNat)).toInt := mC_gt.1 c65
            replace h := eConst (mi := 101) (pc := 82) (len := 1) (v := 0) rfl h
            replace h := eIstore (mi := 101) (pc := 83) (len := 2) (i := 4) rfl (by decide) h
            replace h := eIload (mi := 101) (pc := 85) (len := 1) (i := 3) rfl rfl h
            rcases eIf (mi := 101) (pc := 86) (len := 3) (t := 120) rfl rfl h with ⟨c66, h⟩ | ⟨c66, h⟩
            · exact absurd c66 (by decide)
            · skip
              replace h := eIload (mi := 101) (pc := 89) (len := 2) (i := 4) rfl rfl h
              rcases eIf (mi := 101) (pc := 91) (len := 3) (t := 116) rfl rfl h with ⟨c67, h⟩ | ⟨c67, h⟩
              · exact absurd c67 (by decide)
              · skip
                replace h := eAload (mi := 101) (pc := 94) (len := 1) (i := 0) rfl rfl h
                replace h := eGetR (a := 138) (j := 700) (g := 139) hS (by decide) (by decide) rfl rfl rfl (mi := 101) (pc := 95) (len := 3) rfl h
                replace h := eIload (mi := 101) (pc := 98) (len := 1) (i := 2) rfl rfl h
                obtain ⟨b68, h⟩ := eIald (x := j) hS (a := 139) (by decide) (by decide) rfl (mi := 101) (pc := 99) (len := 1) rfl h
                replace h := eAload (mi := 101) (pc := 100) (len := 1) (i := 0) rfl rfl h
                replace h := eGetR (a := 138) (j := 702) (g := 141) hS (by decide) (by decide) rfl rfl rfl (mi := 101) (pc := 101) (len := 3) rfl h
                replace h := eIload (mi := 101) (pc := 104) (len := 1) (i := 2) rfl rfl h
                obtain ⟨b69, h⟩ := eIald (x := j) hS (a := 141) (by decide) (by decide) rfl (mi := 101) (pc := 105) (len := 1) rfl h
                replace h := eAdd (mi := 101) (pc := 106) (len := 1) rfl h
                replace h := eAload (mi := 101) (pc := 107) (len := 1) (i := 0) rfl rfl h
                replace h := eGetR (a := 138) (j := 700) (g := 139) hS (by decide) (by decide) rfl rfl rfl (mi := 101) (pc := 108) (len := 3) rfl h
                replace h := eIload (mi := 101) (pc := 111) (len := 1) (i := 1) rfl rfl h
                obtain ⟨b70, h⟩ := eIald (x := i) hS (a := 139) (by decide) (by decide) rfl (mi := 101) (pc := 112) (len := 1) rfl h
                rcases eIc (mi := 101) (pc := 113) (len := 3) (t := 120) rfl rfl h with ⟨c71, h⟩ | ⟨c71, h⟩
                · replace c71 : (iv M 139 i.toInt.toNat).toInt < ((iv M 139 j.toInt.toNat) + (iv M 141 j.toInt.toNat)).toInt := mC_gt.1 c71
                  replace h := eConst (mi := 101) (pc := 120) (len := 1) (v := 0) rfl h
                  obtain ⟨e1, e2⟩ := eRetI (mi := 101) (pc := 121) (len := 1) rfl h
                  have hj := b1
                  have hi := b2
                  have hj : 0 ≤ j.toInt ∧ j.toInt.toNat < 8 := hj
                  have hi : 0 ≤ i.toInt ∧ i.toInt.toNat < 8 := hi
                  obtain ⟨_, ⟨dj0, dj1⟩, ⟨nj0, nj1⟩, _⟩ := hp j.toInt.toNat hj.2
                  obtain ⟨_, ⟨di0, di1⟩, _, hh⟩ := hp i.toInt.toNat hi.2
                  obtain ⟨h0, h1⟩ := hh j.toInt.toNat hj.2
                  unfold wDy at dj0 dj1 di0 di1
                  unfold wEn at nj0 nj1
                  unfold wHe at h0 h1
                  have s1 : (iv M 139 j.toInt.toNat + iv M (143 + i.toInt.toNat) j.toInt.toNat).toInt = (iv M 139 j.toInt.toNat).toInt + (iv M (143 + i.toInt.toNat) j.toInt.toNat).toInt := i32_add (by omega) (by omega)
                  have s2 : (iv M 139 j.toInt.toNat + iv M 141 j.toInt.toNat).toInt = (iv M 139 j.toInt.toNat).toInt + (iv M 141 j.toInt.toNat).toInt := i32_add (by omega) (by omega)
                  try rw [s1] at c3
                  try rw [s2] at c3
                  try rw [s1] at c28
                  try rw [s2] at c28
                  try rw [s1] at c40
                  try rw [s2] at c40
                  try rw [s1] at c54
                  try rw [s2] at c54
                  try rw [s1] at c65
                  try rw [s2] at c65
                  try rw [s1] at c71
                  try rw [s2] at c71
                  have e3 : wWd (wDy M) (wEn M) (wHe M) i.toInt.toNat j.toInt.toNat = false := by
                    rw [← Bool.not_eq_true]
                    intro q
                    unfold wWd wAh wWr wDy wEn wHe at q
                    simp only [Bool.and_eq_true, Bool.or_eq_true, decide_eq_true_iff] at q
                    omega
                  rw [e3]
                  exact ⟨by omega, by omega, e1, e2⟩
                · replace c71 : ¬ (iv M 139 i.toInt.toNat).toInt < ((iv M 139 j.toInt.toNat) + (iv M 141 j.toInt.toNat)).toInt := mC_gt.2 c71
                  replace h := eConst (mi := 101) (pc := 116) (len := 1) (v := 1) rfl h
                  replace h := eGoto (mi := 101) (pc := 117) (len := 3) (t := 121) rfl rfl h
                  obtain ⟨e1, e2⟩ := eRetI (mi := 101) (pc := 121) (len := 1) rfl h
                  have hj := b1
                  have hi := b2
                  have hj : 0 ≤ j.toInt ∧ j.toInt.toNat < 8 := hj
                  have hi : 0 ≤ i.toInt ∧ i.toInt.toNat < 8 := hi
                  obtain ⟨_, ⟨dj0, dj1⟩, ⟨nj0, nj1⟩, _⟩ := hp j.toInt.toNat hj.2
                  obtain ⟨_, ⟨di0, di1⟩, _, hh⟩ := hp i.toInt.toNat hi.2
                  obtain ⟨h0, h1⟩ := hh j.toInt.toNat hj.2
                  unfold wDy at dj0 dj1 di0 di1
                  unfold wEn at nj0 nj1
                  unfold wHe at h0 h1
                  have s1 : (iv M 139 j.toInt.toNat + iv M (143 + i.toInt.toNat) j.toInt.toNat).toInt = (iv M 139 j.toInt.toNat).toInt + (iv M (143 + i.toInt.toNat) j.toInt.toNat).toInt := i32_add (by omega) (by omega)
                  have s2 : (iv M 139 j.toInt.toNat + iv M 141 j.toInt.toNat).toInt = (iv M 139 j.toInt.toNat).toInt + (iv M 141 j.toInt.toNat).toInt := i32_add (by omega) (by omega)
                  try rw [s1] at c3
                  try rw [s2] at c3
                  try rw [s1] at c28
                  try rw [s2] at c28
                  try rw [s1] at c40
                  try rw [s2] at c40
                  try rw [s1] at c54
                  try rw [s2] at c54
                  try rw [s1] at c65
                  try rw [s2] at c65
                  try rw [s1] at c71
                  try rw [s2] at c71
                  have e3 : wWd (wDy M) (wEn M) (wHe M) i.toInt.toNat j.toInt.toNat = true := by
                    unfold wWd wAh wWr wDy wEn wHe
                    simp only [Bool.and_eq_true, Bool.or_eq_true, decide_eq_true_iff]
                    omega
                  rw [e3]
                  exact ⟨by omega, by omega, e1, e2⟩
          · replace c65 : ¬ (iv M 139 i.toInt.toNat).toInt < ((iv M 139 j.toInt.toNat) + (iv M (143 + i.toInt.toNat) j.toInt.toNat)).toInt := mC_gt.2 c65
            replace h := eConst (mi := 101) (pc := 78) (len := 1) (v := 1) rfl h
            replace h := eGoto (mi := 101) (pc := 79) (len := 3) (t := 83) rfl rfl h
            replace h := eIstore (mi := 101) (pc := 83) (len := 2) (i := 4) rfl (by decide) h
            replace h := eIload (mi := 101) (pc := 85) (len := 1) (i := 3) rfl rfl h
            rcases eIf (mi := 101) (pc := 86) (len := 3) (t := 120) rfl rfl h with ⟨c72, h⟩ | ⟨c72, h⟩
            · exact absurd c72 (by decide)
            · skip
              replace h := eIload (mi := 101) (pc := 89) (len := 2) (i := 4) rfl rfl h
              rcases eIf (mi := 101) (pc := 91) (len := 3) (t := 116) rfl rfl h with ⟨c73, h⟩ | ⟨c73, h⟩
              · skip
                replace h := eConst (mi := 101) (pc := 116) (len := 1) (v := 1) rfl h
                replace h := eGoto (mi := 101) (pc := 117) (len := 3) (t := 121) rfl rfl h
                obtain ⟨e1, e2⟩ := eRetI (mi := 101) (pc := 121) (len := 1) rfl h
                have hj := b1
                have hi := b2
                have hj : 0 ≤ j.toInt ∧ j.toInt.toNat < 8 := hj
                have hi : 0 ≤ i.toInt ∧ i.toInt.toNat < 8 := hi
                obtain ⟨_, ⟨dj0, dj1⟩, ⟨nj0, nj1⟩, _⟩ := hp j.toInt.toNat hj.2
                obtain ⟨_, ⟨di0, di1⟩, _, hh⟩ := hp i.toInt.toNat hi.2
                obtain ⟨h0, h1⟩ := hh j.toInt.toNat hj.2
                unfold wDy at dj0 dj1 di0 di1
                unfold wEn at nj0 nj1
                unfold wHe at h0 h1
                have s1 : (iv M 139 j.toInt.toNat + iv M (143 + i.toInt.toNat) j.toInt.toNat).toInt = (iv M 139 j.toInt.toNat).toInt + (iv M (143 + i.toInt.toNat) j.toInt.toNat).toInt := i32_add (by omega) (by omega)
                have s2 : (iv M 139 j.toInt.toNat + iv M 141 j.toInt.toNat).toInt = (iv M 139 j.toInt.toNat).toInt + (iv M 141 j.toInt.toNat).toInt := i32_add (by omega) (by omega)
                try rw [s1] at c3
                try rw [s2] at c3
                try rw [s1] at c28
                try rw [s2] at c28
                try rw [s1] at c40
                try rw [s2] at c40
                try rw [s1] at c54
                try rw [s2] at c54
                try rw [s1] at c65
                try rw [s2] at c65
                have e3 : wWd (wDy M) (wEn M) (wHe M) i.toInt.toNat j.toInt.toNat = true := by
                  unfold wWd wAh wWr wDy wEn wHe
                  simp only [Bool.and_eq_true, Bool.or_eq_true, decide_eq_true_iff]
                  omega
                rw [e3]
                exact ⟨by omega, by omega, e1, e2⟩
              · exact absurd c73 (by decide)
theorem better_en {M : Mem} {x y : Int32} (hS : Sh M) (hp : wOk M) (x0 : 0 ≤ x.toInt) (x1 : x.toInt < 256) (y0 : 0 ≤ y.toInt) (y1_ : y.toInt < 256) {n d : Nat} {r : Option Value} {M1 : Mem} (h : En n d 98 0 (lv_args 0 [.ref 138, .int x, .int y]) [] M r M1) : M1 = M ∧ ((r = some (.int 1) ∧ (wGain (wPr M) (tb y.toInt.toNat) 8 < wGain (wPr M) (tb x.toInt.toNat) 8 ∨ (wGain (wPr M) (tb x.toInt.toNat) 8 = wGain (wPr M) (tb y.toInt.toNat) 8 ∧ pc8 x.toInt.toNat < pc8 y.toInt.toNat))) ∨ (r = some (.int 0) ∧ ¬ (wGain (wPr M) (tb y.toInt.toNat) 8 < wGain (wPr M) (tb x.toInt.toNat) 8 ∨ (wGain (wPr M) (tb x.toInt.toNat) 8 = wGain (wPr M) (tb y.toInt.toNat) 8 ∧ pc8 x.toInt.toNat < pc8 y.toInt.toNat)))) := by
  have bx := wGain_b hp (A := tb x.toInt.toNat) (k := 8) (Nat.le_refl 8)
  have by_ := wGain_b hp (A := tb y.toInt.toNat) (k := 8) (Nat.le_refl 8)
  replace h := eAload (mi := 98) (pc := 0) (len := 1) (i := 0) rfl rfl h
  replace h := eIload (mi := 98) (pc := 1) (len := 1) (i := 1) rfl rfl h
  obtain ⟨r1, N2, g3, h⟩ := eCall (mi := 98) (pc := 2) (len := 3) (j := 97) (as := [.ref 138, .int x]) (rest := []) rfl (Or.inr (Or.inl rfl)) (by decide) rfl rfl h
  obtain ⟨my4, y4, qy4, vy4⟩ := gain_en (x := x) hS hp x0 x1 g3
  rw [qy4, my4] at h
  replace h := eAload (mi := 98) (pc := 5) (len := 1) (i := 0) rfl rfl h
  replace h := eIload (mi := 98) (pc := 6) (len := 1) (i := 2) rfl rfl h
  obtain ⟨r5, N6, g7, h⟩ := eCall (mi := 98) (pc := 7) (len := 3) (j := 97) (as := [.ref 138, .int y]) (rest := [.int y4]) rfl (Or.inr (Or.inl rfl)) (by decide) rfl rfl h
  obtain ⟨my8, y8, qy8, vy8⟩ := gain_en (x := y) hS hp y0 y1_ g7
  rw [qy8, my8] at h
  replace h := eSub (mi := 98) (pc := 10) (len := 1) rfl h
  replace h := eIstore (mi := 98) (pc := 11) (len := 1) (i := 3) rfl (by decide) h
  replace h := eIload (mi := 98) (pc := 12) (len := 1) (i := 3) rfl rfl h
  rcases eIf (mi := 98) (pc := 13) (len := 3) (t := 31) rfl rfl h with ⟨c9, h⟩ | ⟨c9, h⟩
  · replace c9 : 0 < (y4 - y8).toInt := mC_gt.1 c9
    replace h := eConst (mi := 98) (pc := 31) (len := 1) (v := 1) rfl h
    replace h := eGoto (mi := 98) (pc := 32) (len := 3) (t := 36) rfl rfl h
    obtain ⟨e1, e2⟩ := eRetI (mi := 98) (pc := 36) (len := 1) rfl h
    have es := i32_sub (x := y4) (y := y8) (by omega) (by omega)
    try rw [es] at c9
    try rw [bc32_i x0 x1, bc32_i y0 y1_] at c9
    exact ⟨e2, Or.inl ⟨e1, by omega⟩⟩
  · replace c9 : ¬ 0 < (y4 - y8).toInt := mC_gt.2 c9
    replace h := eIload (mi := 98) (pc := 16) (len := 1) (i := 3) rfl rfl h
    rcases eIf (mi := 98) (pc := 17) (len := 3) (t := 35) rfl rfl h with ⟨c10, h⟩ | ⟨c10, h⟩
    · replace c10 : ¬ (y4 - y8).toInt = 0 := mC_ne.1 c10
      replace h := eConst (mi := 98) (pc := 35) (len := 1) (v := 0) rfl h
      obtain ⟨e1, e2⟩ := eRetI (mi := 98) (pc := 36) (len := 1) rfl h
      have es := i32_sub (x := y4) (y := y8) (by omega) (by omega)
      try rw [es] at c9
      try rw [bc32_i x0 x1, bc32_i y0 y1_] at c9
      try rw [es] at c10
      try rw [bc32_i x0 x1, bc32_i y0 y1_] at c10
      exact ⟨e2, Or.inr ⟨e1, by omega⟩⟩
    · replace c10 : (y4 - y8).toInt = 0 := mC_ne.2 c10
      replace h := eIload (mi := 98) (pc := 20) (len := 1) (i := 1) rfl rfl h
      replace h := eCallP (mi := 98) (pc := 21) (len := 3) (j := 279) (as := [.int x]) (rest := []) rfl (Or.inl rfl) (by decide) rfl rfl (fun _ _ _ _ g => bc32_en hS g) h
      replace h := eIload (mi := 98) (pc := 24) (len := 1) (i := 2) rfl rfl h
      replace h := eCallP (mi := 98) (pc := 25) (len := 3) (j := 279) (as := [.int y]) (rest := [.int (bc32 x)]) rfl (Or.inl rfl) (by decide) rfl rfl (fun _ _ _ _ g => bc32_en hS g) h
      rcases eIc (mi := 98) (pc := 28) (len := 3) (t := 35) rfl rfl h with ⟨c11, h⟩ | ⟨c11, h⟩
      · replace c11 : ¬ (bc32 x).toInt < (bc32 y).toInt := mC_ge.1 c11
        replace h := eConst (mi := 98) (pc := 35) (len := 1) (v := 0) rfl h
        obtain ⟨e1, e2⟩ := eRetI (mi := 98) (pc := 36) (len := 1) rfl h
        have es := i32_sub (x := y4) (y := y8) (by omega) (by omega)
        try rw [es] at c9
        try rw [bc32_i x0 x1, bc32_i y0 y1_] at c9
        try rw [es] at c10
        try rw [bc32_i x0 x1, bc32_i y0 y1_] at c10
        try rw [es] at c11
        try rw [bc32_i x0 x1, bc32_i y0 y1_] at c11
        exact ⟨e2, Or.inr ⟨e1, by omega⟩⟩
      · replace c11 : (bc32 x).toInt < (bc32 y).toInt := mC_ge.2 c11
        replace h := eConst (mi := 98) (pc := 31) (len := 1) (v := 1) rfl h
        replace h := eGoto (mi := 98) (pc := 32) (len := 3) (t := 36) rfl rfl h
        obtain ⟨e1, e2⟩ := eRetI (mi := 98) (pc := 36) (len := 1) rfl h
        have es := i32_sub (x := y4) (y := y8) (by omega) (by omega)
        try rw [es] at c9
        try rw [bc32_i x0 x1, bc32_i y0 y1_] at c9
        try rw [es] at c10
        try rw [bc32_i x0 x1, bc32_i y0 y1_] at c10
        try rw [es] at c11
        try rw [bc32_i x0 x1, bc32_i y0 y1_] at c11
        exact ⟨e2, Or.inl ⟨e1, by omega⟩⟩

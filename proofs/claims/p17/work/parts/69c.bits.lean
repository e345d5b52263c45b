/-! how many bits an int has -/
section
variable {d : Nat} {L : MLoc} {M : Mem} {Q : Option Value → Mem → Prop} {v : Int32}
theorem kUshr {mi pc len : Nat} {st : List Value} {x y : Int32} (hat : mAt mi pc = some (len, .iushr)) (k : Ok d mi (pc + len) L (.int (ushr x y) :: st) M Q) : Ok d mi pc L (.int y :: .int x :: st) M Q := Ok.pl hat rfl k
theorem ib_1 (hl : mLd L 0 = some (.int v)) (k : Ok d 279 10 (mSt1 L 0 (.int (i1 v))) [] M Q) : Ok d 279 0 L [] M Q := by
  refine kIload (mi := 279) (pc := 0) (len := 1) (i := 0) rfl hl ?_
  refine kIload (len := 1) (i := 0) rfl hl ?_
  refine kIconst (len := 1) (v := 1) rfl ?_
  refine kUshr (len := 1) rfl ?_
  refine kIconst (len := 3) (v := 1431655765) rfl ?_
  refine kAnd (len := 1) rfl ?_
  refine kSub (len := 1) rfl ?_
  exact kIstore (len := 1) (i := 0) rfl (by decide) k
theorem ib_2 (hl : mLd L 0 = some (.int v)) (k : Ok d 279 24 (mSt1 L 0 (.int (i2 v))) [] M Q) : Ok d 279 10 L [] M Q := by
  refine kIload (mi := 279) (pc := 10) (len := 1) (i := 0) rfl hl ?_
  refine kIconst (len := 3) (v := 858993459) rfl ?_
  refine kAnd (len := 1) rfl ?_
  refine kIload (len := 1) (i := 0) rfl hl ?_
  refine kIconst (len := 1) (v := 2) rfl ?_
  refine kUshr (len := 1) rfl ?_
  refine kIconst (len := 3) (v := 858993459) rfl ?_
  refine kAnd (len := 1) rfl ?_
  refine kAdd (len := 1) rfl ?_
  exact kIstore (len := 1) (i := 0) rfl (by decide) k
theorem ib_3 (hl : mLd L 0 = some (.int v)) (k : Ok d 279 34 (mSt1 L 0 (.int (i3 v))) [] M Q) : Ok d 279 24 L [] M Q := by
  refine kIload (mi := 279) (pc := 24) (len := 1) (i := 0) rfl hl ?_
  refine kIload (len := 1) (i := 0) rfl hl ?_
  refine kIconst (len := 1) (v := 4) rfl ?_
  refine kUshr (len := 1) rfl ?_
  refine kAdd (len := 1) rfl ?_
  refine kIconst (len := 3) (v := 252645135) rfl ?_
  refine kAnd (len := 1) rfl ?_
  exact kIstore (len := 1) (i := 0) rfl (by decide) k
theorem ib_4 (hl : mLd L 0 = some (.int v)) (k : Ok d 279 41 (mSt1 L 0 (.int (i4 v))) [] M Q) : Ok d 279 34 L [] M Q := by
  refine kIload (mi := 279) (pc := 34) (len := 1) (i := 0) rfl hl ?_
  refine kIload (len := 1) (i := 0) rfl hl ?_
  refine kIconst (len := 2) (v := 8) rfl ?_
  refine kUshr (len := 1) rfl ?_
  refine kAdd (len := 1) rfl ?_
  exact kIstore (len := 1) (i := 0) rfl (by decide) k
theorem ib_5 (hl : mLd L 0 = some (.int v)) (k : Ok d 279 48 (mSt1 L 0 (.int (i5 v))) [] M Q) : Ok d 279 41 L [] M Q := by
  refine kIload (mi := 279) (pc := 41) (len := 1) (i := 0) rfl hl ?_
  refine kIload (len := 1) (i := 0) rfl hl ?_
  refine kIconst (len := 2) (v := 16) rfl ?_
  refine kUshr (len := 1) rfl ?_
  refine kAdd (len := 1) rfl ?_
  exact kIstore (len := 1) (i := 0) rfl (by decide) k
theorem ib_6 (hl : mLd L 0 = some (.int v)) (k : Q (some (.int (v &&& 63))) M) : Ok d 279 48 L [] M Q := by
  refine kIload (mi := 279) (pc := 48) (len := 1) (i := 0) rfl hl ?_
  refine kIconst (len := 2) (v := 63) rfl ?_
  refine kAnd (len := 1) rfl ?_
  exact kRetI (len := 1) rfl (Or.inl rfl) k
theorem ib_run (hl : mLd L 0 = some (.int v)) (k : Q (some (.int (bcI v))) M) : Ok d 279 0 L [] M Q :=
  ib_1 hl (ib_2 mLd_st1_i (ib_3 mLd_st1_i (ib_4 mLd_st1_i (ib_5 mLd_st1_i (ib_6 mLd_st1_i k)))))
end
theorem bcI_rng (v : Int32) : 0 ≤ (bcI v).toInt ∧ (bcI v).toInt ≤ 63 := by
  have h := i32_and_r (x := i5 (i4 (i3 (i2 (i1 v))))) (y := 63) (by decide)
  exact ⟨h.1, Int.le_trans h.2 (by decide)⟩
def bitsP (v : Int32) : Nat → Int32
  | 0 => 0
  | k + 1 => bitsP v k + ((v >>> (Int32.ofNat k &&& 31)) &&& 1)
theorem bits_fin : ∀ v, v < 1024 → bitsP (Int32.ofNat v) 14 = bcI (Int32.ofNat v) ∧ (bcI (Int32.ofNat v)).toInt ≤ (v : Int) := by decide +kernel
theorem bits_rng {v : Int32} : ∀ k, k ≤ 14 → 0 ≤ (bitsP v k).toInt ∧ (bitsP v k).toInt ≤ (k : Int)
  | 0, _ => ⟨by show (0 : Int) ≤ (0 : Int32).toInt; decide, by show (0 : Int32).toInt ≤ (0 : Int); decide⟩
  | k + 1, hk => by
    have i := bits_rng (v := v) k (by omega)
    have h := i32_and1 (v >>> (Int32.ofNat k &&& 31))
    have e : 0 ≤ ((v >>> (Int32.ofNat k &&& 31)) &&& 1).toInt ∧ ((v >>> (Int32.ofNat k &&& 31)) &&& 1).toInt ≤ 1 := by
      rcases h with h | h <;> rw [h] <;> decide
    have ea : (bitsP v (k + 1)).toInt = (bitsP v k).toInt + ((v >>> (Int32.ofNat k &&& 31)) &&& 1).toInt := i32_add (by omega) (by omega)
    omega
theorem bits_loop {d : Nat} {M : Mem} {Q : Option Value → Mem → Prop} {v : Int32} (K : Q (some (.int (bitsP v 14))) M) : ∀ (n k : Nat) (L : MLoc), 14 - k ≤ n → k ≤ 14 → mLd L 0 = some (.int v) → mLd L 1 = some (.int (bitsP v k)) → mLd L 2 = some (.int (Int32.ofNat k)) → Ok d 183 4 L [] M Q := by
  intro n
  induction n with
  | zero =>
    intro k L h1 h2 l0 l1 l2
    have e : k = 14 := by omega
    subst e
    refine kIload (mi := 183) (pc := 4) (len := 1) (i := 2) rfl l2 ?_
    refine kIconst (len := 2) (v := 14) rfl ?_
    refine kIcT (len := 3) (t := 24) rfl rfl rfl ?_
    refine kIload (len := 1) (i := 1) rfl l1 ?_
    exact kRetI (len := 1) rfl (Or.inl rfl) K
  | succ n ih =>
    intro k L h1 h2 l0 l1 l2
    by_cases e : k = 14
    · subst e
      refine kIload (mi := 183) (pc := 4) (len := 1) (i := 2) rfl l2 ?_
      refine kIconst (len := 2) (v := 14) rfl ?_
      refine kIcT (len := 3) (t := 24) rfl rfl rfl ?_
      refine kIload (len := 1) (i := 1) rfl l1 ?_
      exact kRetI (len := 1) rfl (Or.inl rfl) K
    · have ek : (Int32.ofNat k).toInt = (k : Int) := Int32.toInt_ofNat_of_lt (by omega)
      have en : Int32.ofNat k + 1 = Int32.ofNat (k + 1) := by
        refine Int32.toInt_inj.mp ?_
        rw [i32_inc (by omega) (by omega), ek, Int32.toInt_ofNat_of_lt (by omega)]
        omega
      refine kIload (mi := 183) (pc := 4) (len := 1) (i := 2) rfl l2 ?_
      refine kIconst (len := 2) (v := 14) rfl ?_
      refine kIcF (len := 3) (t := 24) rfl rfl (c_nge (by rw [ek]; show (k : Int) < 14; omega)) ?_
      refine kIload (len := 1) (i := 1) rfl l1 ?_
      refine kIload (len := 1) (i := 0) rfl l0 ?_
      refine kIload (len := 1) (i := 2) rfl l2 ?_
      refine kShr (len := 1) rfl ?_
      refine kIconst (len := 1) (v := 1) rfl ?_
      refine kAnd (len := 1) rfl ?_
      refine kAdd (len := 1) rfl ?_
      refine kIstore (len := 1) (i := 1) rfl (by decide) ?_
      refine kIinc (len := 3) rfl (mLd_st1_int (by decide) l2) (by decide) ?_
      refine kGoto (len := 3) (t := 4) rfl rfl ?_
      refine ih (k + 1) _ (by omega) (by omega) (mLd_st1_int (by decide) (mLd_st1_int (by decide) l0)) (mLd_st1_int (by decide) mLd_st1_i) ?_
      rw [← en]
      exact mLd_st1_i
theorem bt_run {d : Nat} {M : Mem} {L : MLoc} {Q : Option Value → Mem → Prop} {v : Int32} (l0 : mLd L 0 = some (.int v)) (K : Q (some (.int (bitsP v 14))) M) : Ok d 183 0 L [] M Q := by
  refine kIconst (mi := 183) (pc := 0) (len := 1) (v := 0) rfl ?_
  refine kIstore (len := 1) (i := 1) rfl (by decide) ?_
  refine kIconst (len := 1) (v := 0) rfl ?_
  refine kIstore (len := 1) (i := 2) rfl (by decide) ?_
  exact bits_loop K 14 0 _ (by omega) (by omega) (mLd_st1_int (by decide) (mLd_st1_int (by decide) l0)) (mLd_st1_int (by decide) mLd_st1_i) mLd_st1_i

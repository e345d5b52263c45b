/-! which deeds may be sent -/
section
variable {d mi pc len : Nat} {L : MLoc} {st : List Value} {M : Mem} {Q : Option Value → Mem → Prop}
theorem kLload {i : Nat} {x : Int64} (hat : mAt mi pc = some (len, .lload i)) (hl : mLd L i = some (.long x)) (k : Ok d mi (pc + len) L (.long x :: st) M Q) : Ok d mi pc L st M Q := Ok.pl hat (by unfold mStep; dsimp only; rw [hl]) k
theorem kLdc {j : Nat} (hat : mAt mi pc = some (len, .ldc2_w j)) (k : Ok d mi (pc + len) L (.long (mKL.getD j 0) :: st) M Q) : Ok d mi pc L st M Q := Ok.pl hat rfl k
theorem kLcmp {x y : Int64} (hat : mAt mi pc = some (len, .lcmp)) (k : Ok d mi (pc + len) L (.int (lg_cmp x y) :: st) M Q) : Ok d mi pc L (.long y :: .long x :: st) M Q := Ok.pl hat rfl k
theorem kLushr {x : Int64} {y : Int32} (hat : mAt mi pc = some (len, .lushr)) (k : Ok d mi (pc + len) L (.long (shr x y) :: st) M Q) : Ok d mi pc L (.int y :: .long x :: st) M Q := Ok.pl hat rfl k
theorem kLand {x y : Int64} (hat : mAt mi pc = some (len, .land)) (k : Ok d mi (pc + len) L (.long (x &&& y) :: st) M Q) : Ok d mi pc L (.long y :: .long x :: st) M Q := Ok.pl hat rfl k
theorem kLadd {x y : Int64} (hat : mAt mi pc = some (len, .ladd)) (k : Ok d mi (pc + len) L (.long (x + y) :: st) M Q) : Ok d mi pc L (.long y :: .long x :: st) M Q := Ok.pl hat rfl k
theorem kLsub {x y : Int64} (hat : mAt mi pc = some (len, .lsub)) (k : Ok d mi (pc + len) L (.long (x - y) :: st) M Q) : Ok d mi pc L (.long y :: .long x :: st) M Q := Ok.pl hat rfl k
theorem kL2i {x : Int64} (hat : mAt mi pc = some (len, .l2i)) (k : Ok d mi (pc + len) L (.int x.toInt32 :: st) M Q) : Ok d mi pc L (.long x :: st) M Q := Ok.pl hat rfl k
theorem kLstore {i : Nat} {x : Int64} (hat : mAt mi pc = some (len, .lstore i)) (hi : i + 1 < (mIT mi).2.1) (k : Ok d mi (pc + len) (mSt2 L i (.long x)) st M Q) : Ok d mi pc L (.long x :: st) M Q := Ok.pl hat (by unfold mStep; dsimp only; rw [if_pos hi]) k
theorem kDupR {a : Nat} (hat : mAt mi pc = some (len, .dup)) (k : Ok d mi (pc + len) L (.ref a :: .ref a :: st) M Q) : Ok d mi pc L (.ref a :: st) M Q := Ok.pl hat rfl k
theorem kAald {a n b : Nat} {x : Int32} (hat : mAt mi pc = some (len, .aaload)) (hh : mHd M a = some (68, n)) (h0 : 0 ≤ x.toInt) (h1 : x.toInt < (n : Int)) (hs : mSlot M a x.toInt.toNat = some (.ref b)) (k : Ok d mi (pc + len) L (.ref b :: st) M Q) : Ok d mi pc L (.int x :: .ref a :: st) M Q := Ok.pl hat (mAld_run hh h0 h1 hs rfl) k
end
def w1 (x : Int64) : Int64 := x - (shr x 1 &&& 6148914691236517205)
def w2 (v : Int64) : Int64 := (v &&& 3689348814741910323) + (shr v 2 &&& 3689348814741910323)
def w3 (v : Int64) : Int64 := (v + shr v 4) &&& 1085102592571150095
def w4 (v : Int64) : Int64 := v + shr v 8
def w5 (v : Int64) : Int64 := v + shr v 16
def w6 (v : Int64) : Int64 := v + shr v 32
theorem bc_val (x : Int64) : ((w6 (w5 (w4 (w3 (w2 (w1 x)))))).toInt32 &&& 127).toInt = ((cb (un x) 64 : Nat) : Int) := by
  rw [and127]
  have s1 : ∀ v, un (shr v 1) = un v / 2 := fun v => un_shr (y := 1) (by decide) (by decide)
  have s2 : ∀ v, un (shr v 2) = un v / 4 := fun v => un_shr (y := 2) (by decide) (by decide)
  have s4 : ∀ v, un (shr v 4) = un v / 16 := fun v => un_shr (y := 4) (by decide) (by decide)
  have s8 : ∀ v, un (shr v 8) = un v / 256 := fun v => un_shr (y := 8) (by decide) (by decide)
  have s16 : ∀ v, un (shr v 16) = un v / 65536 := fun v => un_shr (y := 16) (by decide) (by decide)
  have s32 : ∀ v, un (shr v 32) = un v / 4294967296 := fun v => un_shr (y := 32) (by decide) (by decide)
  have k1 : un 6148914691236517205 = 6148914691236517205 := rfl
  have k2 : un 3689348814741910323 = 3689348814741910323 := rfl
  have k3 : un 1085102592571150095 = 1085102592571150095 := rfl
  have e1 : un (w1 x) = un x - (un x / 2 &&& 6148914691236517205) := by
    unfold w1
    rw [un_sub (by rw [un_and, s1]; exact Nat.le_trans Nat.and_le_left (Nat.div_le_self _ _)), un_and, s1, k1]
  have e2 : un (w2 (w1 x)) = (un (w1 x) &&& 3689348814741910323) + (un (w1 x) / 4 &&& 3689348814741910323) := by
    have a1 : (un (w1 x) &&& 3689348814741910323) ≤ 3689348814741910323 := Nat.and_le_right
    have a2 : (un (w1 x) / 4 &&& 3689348814741910323) ≤ 3689348814741910323 := Nat.and_le_right
    unfold w2
    rw [un_add (by rw [un_and, un_and, s2, k2]; omega), un_and, un_and, s2, k2]
  have b2 : un (w2 (w1 x)) ≤ 7378697629483820646 := by
    have a1 : (un (w1 x) &&& 3689348814741910323) ≤ 3689348814741910323 := Nat.and_le_right
    have a2 : (un (w1 x) / 4 &&& 3689348814741910323) ≤ 3689348814741910323 := Nat.and_le_right
    omega
  have e3 : un (w3 (w2 (w1 x))) = (un (w2 (w1 x)) + un (w2 (w1 x)) / 16) &&& 1085102592571150095 := by
    unfold w3
    rw [un_and, un_add (by rw [s4]; omega), s4, k3]
  have b3 : un (w3 (w2 (w1 x))) ≤ 1085102592571150095 := by rw [e3]; exact Nat.and_le_right
  have e4 : un (w4 (w3 (w2 (w1 x)))) = un (w3 (w2 (w1 x))) + un (w3 (w2 (w1 x))) / 256 := by
    conv => lhs; unfold w4
    rw [un_add (by rw [s8]; omega), s8]
  have e5 : un (w5 (w4 (w3 (w2 (w1 x))))) = un (w4 (w3 (w2 (w1 x)))) + un (w4 (w3 (w2 (w1 x)))) / 65536 := by
    conv => lhs; unfold w5
    rw [un_add (by rw [s16]; omega), s16]
  have e6 : un (w6 (w5 (w4 (w3 (w2 (w1 x)))))) = un (w5 (w4 (w3 (w2 (w1 x))))) + un (w5 (w4 (w3 (w2 (w1 x))))) / 4294967296 := by
    conv => lhs; unfold w6
    rw [un_add (by rw [s32]; omega), s32]
  rw [swar (un_lt x) e1 e2 e3 e4 e5 e6]
section
variable {d : Nat} {L : MLoc} {M : Mem} {Q : Option Value → Mem → Prop} {v : Int64}
theorem bc_1 (hl : mLd L 0 = some (.long v)) (k : Ok d 280 10 (mSt2 L 0 (.long (w1 v))) [] M Q) : Ok d 280 0 L [] M Q := by
  refine kLload (mi := 280) (pc := 0) (len := 1) (i := 0) rfl hl ?_
  refine kLload (len := 1) (i := 0) rfl hl ?_
  refine kIconst (len := 1) (v := 1) rfl ?_
  refine kLushr (len := 1) rfl ?_
  refine kLdc (len := 3) (j := 3) rfl ?_
  refine kLand (len := 1) rfl ?_
  refine kLsub (len := 1) rfl ?_
  exact kLstore (len := 1) (i := 0) rfl (by decide) k
theorem bc_2 (hl : mLd L 0 = some (.long v)) (k : Ok d 280 24 (mSt2 L 0 (.long (w2 v))) [] M Q) : Ok d 280 10 L [] M Q := by
  refine kLload (mi := 280) (pc := 10) (len := 1) (i := 0) rfl hl ?_
  refine kLdc (len := 3) (j := 4) rfl ?_
  refine kLand (len := 1) rfl ?_
  refine kLload (len := 1) (i := 0) rfl hl ?_
  refine kIconst (len := 1) (v := 2) rfl ?_
  refine kLushr (len := 1) rfl ?_
  refine kLdc (len := 3) (j := 4) rfl ?_
  refine kLand (len := 1) rfl ?_
  refine kLadd (len := 1) rfl ?_
  exact kLstore (len := 1) (i := 0) rfl (by decide) k
theorem bc_3 (hl : mLd L 0 = some (.long v)) (k : Ok d 280 34 (mSt2 L 0 (.long (w3 v))) [] M Q) : Ok d 280 24 L [] M Q := by
  refine kLload (mi := 280) (pc := 24) (len := 1) (i := 0) rfl hl ?_
  refine kLload (len := 1) (i := 0) rfl hl ?_
  refine kIconst (len := 1) (v := 4) rfl ?_
  refine kLushr (len := 1) rfl ?_
  refine kLadd (len := 1) rfl ?_
  refine kLdc (len := 3) (j := 5) rfl ?_
  refine kLand (len := 1) rfl ?_
  exact kLstore (len := 1) (i := 0) rfl (by decide) k
theorem bc_4 (hl : mLd L 0 = some (.long v)) (k : Ok d 280 41 (mSt2 L 0 (.long (w4 v))) [] M Q) : Ok d 280 34 L [] M Q := by
  refine kLload (mi := 280) (pc := 34) (len := 1) (i := 0) rfl hl ?_
  refine kLload (len := 1) (i := 0) rfl hl ?_
  refine kIconst (len := 2) (v := 8) rfl ?_
  refine kLushr (len := 1) rfl ?_
  refine kLadd (len := 1) rfl ?_
  exact kLstore (len := 1) (i := 0) rfl (by decide) k
theorem bc_5 (hl : mLd L 0 = some (.long v)) (k : Ok d 280 48 (mSt2 L 0 (.long (w5 v))) [] M Q) : Ok d 280 41 L [] M Q := by
  refine kLload (mi := 280) (pc := 41) (len := 1) (i := 0) rfl hl ?_
  refine kLload (len := 1) (i := 0) rfl hl ?_
  refine kIconst (len := 2) (v := 16) rfl ?_
  refine kLushr (len := 1) rfl ?_
  refine kLadd (len := 1) rfl ?_
  exact kLstore (len := 1) (i := 0) rfl (by decide) k
theorem bc_6 (hl : mLd L 0 = some (.long v)) (k : Ok d 280 55 (mSt2 L 0 (.long (w6 v))) [] M Q) : Ok d 280 48 L [] M Q := by
  refine kLload (mi := 280) (pc := 48) (len := 1) (i := 0) rfl hl ?_
  refine kLload (len := 1) (i := 0) rfl hl ?_
  refine kIconst (len := 2) (v := 32) rfl ?_
  refine kLushr (len := 1) rfl ?_
  refine kLadd (len := 1) rfl ?_
  exact kLstore (len := 1) (i := 0) rfl (by decide) k
theorem bc_7 (hl : mLd L 0 = some (.long v)) (k : Q (some (.int (v.toInt32 &&& 127))) M) : Ok d 280 55 L [] M Q := by
  refine kLload (mi := 280) (pc := 55) (len := 1) (i := 0) rfl hl ?_
  refine kL2i (len := 1) rfl ?_
  refine kIconst (len := 2) (v := 127) rfl ?_
  refine kAnd (len := 1) rfl ?_
  exact kRetI (len := 1) rfl (Or.inl rfl) k
theorem bc_run {x : Int64} (hl : mLd L 0 = some (.long x)) (K : ∀ r : Int32, r.toInt = ((cb (un x) 64 : Nat) : Int) → Q (some (.int r)) M) : Ok d 280 0 L [] M Q :=
  bc_1 hl (bc_2 mLd_st2_i (bc_3 mLd_st2_i (bc_4 mLd_st2_i (bc_5 mLd_st2_i (bc_6 mLd_st2_i (bc_7 mLd_st2_i (K _ (bc_val x))))))))
theorem he_run {s : List Int32} {a : Nat} (hT : aTp s M) (a2 : 2 ≤ a) (a3 : a < tEnd) (ha : tGrp a = 10) (hl : mLd L 0 = some (.ref a)) (k0 : Q (some (.int 0)) M) (k1 : Q (some (.int 1)) M) : Ok d 27 0 L [] M Q := by
  have hd := hT.hd a2 a3
  rw [ha] at hd
  obtain ⟨w, hw, ht⟩ := hT.get (i := 7) a2 a3 (by rw [ha]; decide)
  rw [ha] at ht
  obtain ⟨y, rfl, _⟩ := ht
  refine kAload (mi := 27) (pc := 0) (len := 1) (i := 0) rfl hl ?_
  refine kGetf (len := 3) (j := 107) rfl hd (by decide) hw ?_
  refine kIconst (len := 2) (v := 1000000) rfl ?_
  cases hc : mCond .eq y (Int32.ofInt 1000000) with
  | true =>
    refine kIcT (len := 3) (t := 13) rfl rfl hc ?_
    refine kIconst (len := 1) (v := 0) rfl ?_
    exact kRetI (len := 1) rfl (Or.inr ⟨rfl, Or.inl rfl⟩) k0
  | false =>
    refine kIcF (len := 3) (t := 13) rfl rfl hc ?_
    refine kIconst (len := 1) (v := 1) rfl ?_
    refine kGoto (len := 3) (t := 14) rfl rfl ?_
    exact kRetI (len := 1) rfl (Or.inr ⟨rfl, Or.inr rfl⟩) k1
end
theorem mCall_280 {d : Nat} {M : Mem} {x : Int64} (hd : 1 ≤ d) : mCall d 280 [.long x] M = some ([.long x], []) := by
  unfold mCall
  exact if_pos ⟨⟨hd, by decide, Nat.le_refl 1, Nat.zero_le 8, Nat.le_refl 2⟩, Or.inl rfl⟩
theorem mCall_27 {d a n : Nat} {M : Mem} (hd : 1 ≤ d) (hh : mHd M a = some (1, n)) : mCall d 27 [.ref a] M = some ([.ref a], []) := by
  unfold mCall
  exact if_pos ⟨⟨hd, by decide, Nat.le_refl 1, Nat.zero_le 8, Nat.le_refl 1⟩, Or.inr (Or.inl ⟨rfl, mTag_hd hh⟩)⟩
theorem lg_zero {x : Int64} : lg_cmp x 0 = 0 ↔ un x = 0 := by
  have e : x = 0 ↔ un x = 0 := ⟨fun h => by rw [h]; rfl, fun h => Int64.toBitVec_inj.mp (BitVec.eq_of_toNat_eq h)⟩
  rw [← e]
  unfold lg_cmp
  by_cases h1 : x > 0
  · rw [if_pos h1]
    exact ⟨fun c => absurd c (by decide), fun c => by subst c; exact absurd h1 (by decide)⟩
  · rw [if_neg h1]
    by_cases h2 : x = 0
    · rw [if_pos h2]; exact ⟨fun _ => h2, fun _ => rfl⟩
    · rw [if_neg h2]; exact ⟨fun c => absurd c (by decide), fun c => absurd c h2⟩
theorem aFr_arr {mod : List (Nat × Nat)} {M : Mem} {a i : Nat} {v : Value} (h64 : 64 ≤ tTag (tGrp a)) (h : ∀ j, tPro (tGrp a) (aSlK a j) = false) : aFr mod M (mPut M a i v) := by
  cases hm : M[a]? with
  | none => unfold mPut; rw [hm]; exact aFr.rf
  | some q =>
    obtain ⟨t, fs⟩ := q
    refine ⟨by rw [mPut_eq hm, List.length_set], by rw [mPut_eq hm]; exact mSl_set hm List.length_set, ?_, ?_⟩
    · intro c j c1 c2 c3 c4 c5
      refine mSlot_put_ne (Or.inl (fun e => ?_))
      subst e
      omega
    · intro c j c1 c2 c3 c4
      refine mSlot_put_ne (Or.inl (fun e => ?_))
      subst e
      rw [h j] at c3
      cases c3
theorem un_bit {x : Int64} {y : Int32} (h0 : 0 ≤ y.toInt) (h1 : y.toInt < 64) : un (shr x y &&& 1) = un x / 2 ^ y.toInt.toNat % 2 := by
  rw [un_and, un_shr h0 h1]
  exact Nat.and_two_pow_sub_one_eq_mod _ 1
theorem t10_int {s : List Int32} {M : Mem} (hT : aTp s M) {a : Nat} (a2 : 2 ≤ a) (a3 : a < tEnd) (ha : tGrp a = 10) : ∃ y : Int32, mSlot M a 3 = some (.int y) := by
  obtain ⟨w, hw, ht⟩ := hT.get (i := 3) a2 a3 (by rw [ha]; decide)
  rw [ha] at ht
  obtain ⟨y, rfl, _⟩ := ht
  exact ⟨y, hw⟩

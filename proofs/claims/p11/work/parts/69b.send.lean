/-! which deeds may be sent -/
section
variable {d mi pc len : Nat} {L : MLoc} {st : List Value} {M : Mem} {Q : Option Value → Mem → Prop}
theorem kLload {i : Nat} {x : Int64} (hat : mAt mi pc = some (len, .lload i)) (hl : mLd L i = some (.long x)) (k : Ok d mi (pc + len) L (.long x :: st) M Q) : Ok d mi pc L st M Q := Ok.pl hat (by unfold mStep; dsimp only; rw [hl]) k
theorem kLdc {j : Nat} (hat : mAt mi pc = some (len, .ldc2_w j)) (k : Ok d mi (pc + len) L (.long (mKL.getD j 0) :: st) M Q) : Ok d mi pc L st M Q := Ok.pl hat rfl k
theorem kLcmp {x y : Int64} (hat : mAt mi pc = some (len, .lcmp)) (k : Ok d mi (pc + len) L (.int (lg_cmp x y) :: st) M Q) : Ok d mi pc L (.long y :: .long x :: st) M Q := Ok.pl hat rfl k
theorem kLushr {x : Int64} {y : Int32} (hat : mAt mi pc = some (len, .lushr)) (k : Ok d mi (pc + len) L (.long (shr x y) :: st) M Q) : Ok d mi pc L (.int y :: .long x :: st) M Q := Ok.pl hat rfl k
theorem kLand {x y : Int64} (hat : mAt mi pc = some (len, .land)) (k : Ok d mi (pc + len) L (.long (x &&& y) :: st) M Q) : Ok d mi pc L (.long y :: .long x :: st) M Q := Ok.pl hat rfl k
theorem kLadd {x y : Int64} (hat : mAt mi pc = some (len, .ladd)) (k : Ok d mi (pc + len) L (.long (x + y) :: st) M Q) : Ok d mi pc L (.long y :: .long x :: st) M Q := Ok.pl hat rfl k
theorem kLsub {x y : Int64} (hat : mAt mi pc = some (len, .lsub)) (k : Ok d mi (pc + len) L (.long (x - y) :: st) M Q) : Ok d mi pc L (.long y :: .long x :: st) M Q := Ok.pl hat rfl k
theorem kL2i {x : Int64} (hat : mAt mi pc = some (len, .l2i)) (k : Ok d mi (pc + len) L (.int x.toInt32 :: st) M Q) : Ok d mi pc L (.long x :: st) M Q := Ok.pl hat rfl k
theorem kLstore {i : Nat} {x : Int64} (hat : mAt mi pc = some (len, .lstore i)) (hi : i + 1 < (mIT mi).2.1) (k : Ok d mi (pc + len) (mSt2 L i (.long x)) st M Q) : Ok d mi pc L (.long x :: st) M Q := Ok.pl hat (by unfold mStep; dsimp only; rw [if_pos hi]) k
theorem kDupR {a : Nat} (hat : mAt mi pc = some (len, .dup)) (k : Ok d mi (pc + len) L (.ref a :: .ref a :: st) M Q) : Ok d mi pc L (.ref a :: st) M Q := Ok.pl hat rfl k
theorem kAald {a n b : Nat} {x : Int32} (hat : mAt mi pc = some (len, .aaload)) (hh : mHd M a = some (68, n)) (h0 : 0 ≤ x.toInt) (h1 : x.toInt < (n : Int)) (hs : mSlot M a x.toInt.toNat = some (.ref b)) (k : Ok d mi (pc + len) L (.ref b :: st) M Q) : Ok d mi pc L (.int x :: .ref a :: st) M Q := Ok.pl hat (mAld_run hh h0 h1 hs rfl) k
end
def w1 (x : Int64) : Int64 := x - (shr x 1 &&& 6148914691236517205)
def w2 (v : Int64) : Int64 := (v &&& 3689348814741910323) + (shr v 2 &&& 3689348814741910323)
def w3 (v : Int64) : Int64 := (v + shr v 4) &&& 1085102592571150095
def w4 (v : Int64) : Int64 := v + shr v 8
def w5 (v : Int64) : Int64 := v + shr v 16
def w6 (v : Int64) : Int64 := v + shr v 32
theorem bc_val (x : Int64) : ((w6 (w5 (w4 (w3 (w2 (w1 x)))))).toInt32 &&& 127).toInt = ((cb (un x) 64 : Nat) : Int) := by
  rw [and127]
  have s1 : ∀ v, un (shr v 1) = un v / 2 := fun v => un_shr (y := 1) (by decide) (by decide)
  have s2 : ∀ v, un (shr v 2) = un v / 4 := fun v => un_shr (y := 2) (by decide) (by decide)
  have s4 : ∀ v, un (shr v 4) = un v / 16 := fun v => un_shr (y := 4) (by decide) (by decide)
  have s8 : ∀ v, un (shr v 8) = un v / 256 := fun v => un_shr (y := 8) (by decide) (by decide)
  have s16 : ∀ v, un (shr v 16) = un v / 65536 := fun v => un_shr (y := 16) (by decide) (by decide)
  have s32 : ∀ v, un (shr v 32) = un v / 4294967296 := fun v => un_shr (y := 32) (by decide) (by decide)
  have k1 : un 6148914691236517205 = 6148914691236517205 := rfl
  have k2 : un 3689348814741910323 = 3689348814741910323 := rfl
  have k3 : un 1085102592571150095 = 1085102592571150095 := rfl
  have e1 : un (w1 x) = un x - (un x / 2 &&& 6148914691236517205) := by
    unfold w1
    rw [un_sub (by rw [un_and, s1]; exact Nat.le_trans Nat.and_le_left (Nat.div_le_self _ _)), un_and, s1, k1]
  have e2 : un (w2 (w1 x)) = (un (w1 x) &&& 3689348814741910323) + (un (w1 x) / 4 &&& 3689348814741910323) := by
    have a1 : (un (w1 x) &&& 3689348814741910323) ≤ 3689348814741910323 := Nat.and_le_right
    have a2 : (un (w1 x) / 4 &&& 3689348814741910323) ≤ 3689348814741910323 := Nat.and_le_right
    unfold w2
    rw [un_add (by rw [un_and, un_and, s2, k2]; omega), un_and, un_and, s2, k2]
  have b2 : un (w2 (w1 x)) ≤ 7378697629483820646 := by
    have a1 : (un (w1 x) &&& 3689348814741910323) ≤ 3689348814741910323 := Nat.and_le_right
    have a2 : (un (w1 x) / 4 &&& 3689348814741910323) ≤ 3689348814741910323 := Nat.and_le_right
    omega
  have e3 : un (w3 (w2 (w1 x))) = (un (w2 (w1 x)) + un (w2 (w1 x)) / 16) &&& 1085102592571150095 := by
    unfold w3
    rw [un_and, un_add (by rw [s4]; omega), s4, k3]
  have b3 : un (w3 (w2 (w1 x))) ≤ 1085102592571150095 := by rw [e3]; exact Nat.and_le_right
  have e4 : un (w4 (w3 (w2 (w1 x)))) = un (w3 (w2 (w1 x))) + un (w3 (w2 (w1 x))) / 256 := by
    conv => lhs; unfold w4
    rw [un_add (by rw [s8]; omega), s8]
  have e5 : un (w5 (w4 (w3 (w2 (w1 x))))) = un (w4 (w3 (w2 (w1 x)))) + un (w4 (w3 (w2 (w1 x)))) / 65536 := by
    conv => lhs; unfold w5
    rw [un_add (by rw [s16]; omega), s16]
  have e6 : un (w6 (w5 (w4 (w3 (w2 (w1 x)))))) = un (w5 (w4 (w3 (w2 (w1 x))))) + un (w5 (w4 (w3 (w2 (w1 x))))) / 4294967296 := by
    conv => lhs; unfold w6
    rw [un_add (by rw [s32]; omega), s32]
  rw [swar (un_lt x) e1 e2 e3 e4 e5 e6]
section
variable {d : Nat} {L : MLoc} {M : Mem} {Q : Option Value → Mem → Prop} {v : Int64}
theorem bc_1 (hl : mLd L 0 = some (.long v)) (k : Ok d 280 10 (mSt2 L 0 (.long (w1 v))) [] M Q) : Ok d 280 0 L [] M Q := by
  refine kLload (mi := 280) (pc := 0) (len := 1) (i := 0) rfl hl ?_
  refine kLload (len := 1) (i := 0) rfl hl ?_
  refine kIconst (len := 1) (v := 1) rfl ?_
  refine kLushr (len := 1) rfl ?_
  refine kLdc (len := 3) (j := 3) rfl ?_
  refine kLand (len := 1) rfl ?_
  refine kLsub (len := 1) rfl ?_
  exact kLstore (len := 1) (i := 0) rfl (by decide) k
theorem bc_2 (hl : mLd L 0 = some (.long v)) (k : Ok d 280 24 (mSt2 L 0 (.long (w2 v))) [] M Q) : Ok d 280 10 L [] M Q := by
  refine kLload (mi := 280) (pc := 10) (len := 1) (i := 0) rfl hl ?_
  refine kLdc (len := 3) (j := 4) rfl ?_
  refine kLand (len := 1) rfl ?_
  refine kLload (len := 1) (i := 0) rfl hl ?_
  refine kIconst (len := 1) (v := 2) rfl ?_
  refine kLushr (len := 1) rfl ?_
  refine kLdc (len := 3) (j := 4) rfl ?_
  refine kLand (len := 1) rfl ?_
  refine kLadd (len := 1) rfl ?_
  exact kLstore (len := 1) (i := 0) rfl (by decide) k
theorem bc_3 (hl : mLd L 0 = some (.long v)) (k : Ok d 280 34 (mSt2 L 0 (.long (w3 v))) [] M Q) : Ok d 280 24 L [] M Q := by
  refine kLload (mi := 280) (pc := 24) (len := 1) (i := 0) rfl hl ?_
  refine kLload (len := 1) (i := 0) rfl hl ?_
  refine kIconst (len := 1) (v := 4) rfl ?_
  refine kLushr (len := 1) rfl ?_
  refine kLadd (len := 1) rfl ?_
  refine kLdc (len := 3) (j := 5) rfl ?_
  refine kLand (len := 1) rfl ?_
  exact kLstore (len := 1) (i := 0) rfl (by decide) k
theorem bc_4 (hl : mLd L 0 = some (.long v)) (k : Ok d 280 41 (mSt2 L 0 (.long (w4 v))) [] M Q) : Ok d 280 34 L [] M Q := by
  refine kLload (mi := 280) (pc := 34) (len := 1) (i := 0) rfl hl ?_
  refine kLload (len := 1) (i := 0) rfl hl ?_
  refine kIconst (len := 2) (v := 8) rfl ?_
  refine kLushr (len := 1) rfl ?_
  refine kLadd (len := 1) rfl ?_
  exact kLstore (len := 1) (i := 0) rfl (by decide) k
theorem bc_5 (hl : mLd L 0 = some (.long v)) (k : Ok d 280 48 (mSt2 L 0 (.long (w5 v))) [] M Q) : Ok d 280 41 L [] M Q := by
  refine kLload (mi := 280) (pc := 41) (len := 1) (i := 0) rfl hl ?_
  refine kLload (len := 1) (i := 0) rfl hl ?_
  refine kIconst (len := 2) (v := 16) rfl ?_
  refine kLushr (len := 1) rfl ?_
  refine kLadd (len := 1) rfl ?_
  exact kLstore (len := 1) (i := 0) rfl (by decide) k
theorem bc_6 (hl : mLd L 0 = some (.long v)) (k : Ok d 280 55 (mSt2 L 0 (.long (w6 v))) [] M Q) : Ok d 280 48 L [] M Q := by
  refine kLload (mi := 280) (pc := 48) (len := 1) (i := 0) rfl hl ?_
  refine kLload (len := 1) (i := 0) rfl hl ?_
  refine kIconst (len := 2) (v := 32) rfl ?_
  refine kLushr (len := 1) rfl ?_
  refine kLadd (len := 1) rfl ?_
  exact kLstore (len := 1) (i := 0) rfl (by decide) k
theorem bc_7 (hl : mLd L 0 = some (.long v)) (k : Q (some (.int (v.toInt32 &&& 127))) M) : Ok d 280 55 L [] M Q := by
  refine kLload (mi := 280) (pc := 55) (len := 1) (i := 0) rfl hl ?_
  refine kL2i (len := 1) rfl ?_
  refine kIconst (len := 2) (v := 127) rfl ?_
  refine kAnd (len := 1) rfl ?_
  exact kRetI (len := 1) rfl (Or.inl rfl) k
theorem bc_run {x : Int64} (hl : mLd L 0 = some (.long x)) (K : ∀ r : Int32, r.toInt = ((cb (un x) 64 : Nat) : Int) → Q (some (.int r)) M) : Ok d 280 0 L [] M Q :=
  bc_1 hl (bc_2 mLd_st2_i (bc_3 mLd_st2_i (bc_4 mLd_st2_i (bc_5 mLd_st2_i (bc_6 mLd_st2_i (bc_7 mLd_st2_i (K _ (bc_val x))))))))
theorem he_run {s : List Int32} {a : Nat} (hT : aTp s M) (a2 : 2 ≤ a) (a3 : a < tEnd) (ha : tGrp a = 10) (hl : mLd L 0 = some (.ref a)) (k0 : Q (some (.int 0)) M) (k1 : Q (some (.int 1)) M) : Ok d 27 0 L [] M Q := by
  have hd := hT.hd a2 a3
  rw [ha] at hd
  obtain ⟨w, hw, ht⟩ := hT.get (i := 7) a2 a3 (by rw [ha]; decide)
  rw [ha] at ht
  obtain ⟨y, rfl, _⟩ := ht
  refine kAload (mi := 27) (pc := 0) (len := 1) (i := 0) rfl hl ?_
  refine kGetf (len := 3) (j := 107) rfl hd (by decide) hw ?_
  refine kIconst (len := 2) (v := 1000000) rfl ?_
  cases hc : mCond .eq y (Int32.ofInt 1000000) with
  | true =>
    refine kIcT (len := 3) (t := 13) rfl rfl hc ?_
    refine kIconst (len := 1) (v := 0) rfl ?_
    exact kRetI (len := 1) rfl (Or.inr ⟨rfl, Or.inl rfl⟩) k0
  | false =>
    refine kIcF (len := 3) (t := 13) rfl rfl hc ?_
    refine kIconst (len := 1) (v := 1) rfl ?_
    refine kGoto (len := 3) (t := 14) rfl rfl ?_
    exact kRetI (len := 1) rfl (Or.inr ⟨rfl, Or.inr rfl⟩) k1
end
theorem mCall_280 {d : Nat} {M : Mem} {x : Int64} (hd : 1 ≤ d) : mCall d 280 [.long x] M = some ([.long x], []) := by
  unfold mCall
  exact if_pos ⟨⟨hd, by decide, Nat.le_refl 1, Nat.zero_le 8, Nat.le_refl 2⟩, Or.inl rfl⟩
theorem mCall_27 {d a n : Nat} {M : Mem} (hd : 1 ≤ d) (hh : mHd M a = some (1, n)) : mCall d 27 [.ref a] M = some ([.ref a], []) := by
  unfold mCall
  exact if_pos ⟨⟨hd, by decide, Nat.le_refl 1, Nat.zero_le 8, Nat.le_refl 1⟩, Or.inr (Or.inl ⟨rfl, mTag_hd hh⟩)⟩
theorem lg_zero {x : Int64} : lg_cmp x 0 = 0 ↔ un x = 0 := by
  have e : x = 0 ↔ un x = 0 := ⟨fun h => by rw [h]; rfl, fun h => Int64.toBitVec_inj.mp (BitVec.eq_of_toNat_eq h)⟩
  rw [← e]
  unfold lg_cmp
  by_cases h1 : x > 0
  · rw [if_pos h1]
    exact ⟨fun c => absurd c (by decide), fun c => by subst c; exact absurd h1 (by decide)⟩
  · rw [if_neg h1]
    by_cases h2 : x = 0
    · rw [if_pos h2]; exact ⟨fun _ => h2, fun _ => rfl⟩
    · rw [if_neg h2]; exact ⟨fun c => absurd c (by decide), fun c => absurd c h2⟩
theorem xv_np {M : Mem} {a i : Nat} {v : Value} (h : ∀ j, tPro (tGrp a) (aSlK a j) = false) : xv (mPut M a i v) = xv M := by
  funext c j
  by_cases e : c = a
  · subst e
    unfold xv
    rw [h j]
    rfl
  · rw [xv_put e]
theorem aFr_arr {mod : List (Nat × Nat)} {M : Mem} {a i : Nat} {v : Value} (h64 : 64 ≤ tTag (tGrp a)) (h : ∀ j, tPro (tGrp a) (aSlK a j) = false) : aFr mod M (mPut M a i v) := by
  cases hm : M[a]? with
  | none => unfold mPut; rw [hm]; exact aFr.rf
  | some q =>
    obtain ⟨t, fs⟩ := q
    refine ⟨by rw [mPut_eq hm, List.length_set], by rw [mPut_eq hm]; exact mSl_set hm List.length_set, ?_, ?_⟩
    · intro c j c1 c2 c3 c4 c5
      refine mSlot_put_ne (Or.inl (fun e => ?_))
      subst e
      omega
    · intro c j c1 c2 c3 c4
      refine mSlot_put_ne (Or.inl (fun e => ?_))
      subst e
      rw [h j] at c3
      cases c3
theorem un_bit {x : Int64} {y : Int32} (h0 : 0 ≤ y.toInt) (h1 : y.toInt < 64) : un (shr x y &&& 1) = un x / 2 ^ y.toInt.toNat % 2 := by
  rw [un_and, un_shr h0 h1]
  exact Nat.and_two_pow_sub_one_eq_mod _ 1
theorem t10_int {s : List Int32} {M : Mem} (hT : aTp s M) {a : Nat} (a2 : 2 ≤ a) (a3 : a < tEnd) (ha : tGrp a = 10) : ∃ y : Int32, mSlot M a 3 = some (.int y) := by
  obtain ⟨w, hw, ht⟩ := hT.get (i := 3) a2 a3 (by rw [ha]; decide)
  rw [ha] at ht
  obtain ⟨y, rfl, _⟩ := ht
  exact ⟨y, hw⟩
theorem ms_loop {s : List Int32} {γ : Gh} {d : Nat} {M : Mem} {Q : Option Value → Mem → Prop} {x : Int64} {cnt se : Int32} (hd1 : 1 ≤ d) (c0 : 0 ≤ cnt.toInt) (c1 : cnt.toInt ≤ 40) (hb : cb (un x) 64 ≤ 4) (post : ∀ (r : Int32) M', r = 0 ∨ r = 1 → aTp s M' → tXI γ M' → aFr cm_42.2.2.2.2.2 M M' → Q (some (.int r)) M') : ∀ (n : Nat) (L : MLoc) (M' : Mem) (k sc : Int32), cnt.toInt - k.toInt ≤ n → 0 ≤ k.toInt → k.toInt ≤ cnt.toInt → mLd L 0 = some (.ref 177) → mLd L 1 = some (.long x) → mLd L 3 = some (.int se) → mLd L 4 = some (.int k) → aTp s M' → tXI γ M' → aFr cm_42.2.2.2.2.2 M M' → mSlot M' 7 2 = some (.int cnt) → mSlot M' 177 5 = some (.int sc) → sc.toInt = ((cb (un x) k.toInt.toNat : Nat) : Int) → Ok d 42 38 L [] M' Q := by
  intro n
  induction n with
  | zero =>
    intro L M' k sc h1 h2 h3 l0 l1 l3 l4 hT hX hF hc hs hsc
    have hd := hT.hd (c := 177) (by decide) (by decide)
    have hd7 := hT.hd (c := 7) (by decide) (by decide)
    have r0 := hT.ref (c := 177) (i := 0) (g := 7) (by decide) (by decide) (by decide) (lo := 0) (hi' := 0) rfl rfl
    refine kIload (mi := 42) (pc := 38) (len := 2) (i := 4) rfl l4 ?_
    refine kAload (len := 1) (i := 0) rfl l0 ?_
    refine kGetf (len := 3) (j := 200) rfl hd (by decide) r0 ?_
    refine kGetf (len := 3) (j := 602) rfl hd7 (by decide) hc ?_
    refine kIcT (len := 3) (t := 123) rfl rfl (c_ge (by omega)) ?_
    refine kIconst (len := 1) (v := 1) rfl ?_
    exact kRetI (len := 1) rfl (Or.inr ⟨rfl, Or.inr rfl⟩) (post 1 M' (Or.inr rfl) hT hX hF)
  | succ n ih =>
    intro L M' k sc h1 h2 h3 l0 l1 l3 l4 hT hX hF hc hs hsc
    have hd := hT.hd (c := 177) (by decide) (by decide)
    have hd7 := hT.hd (c := 7) (by decide) (by decide)
    have hd8 := hT.hd (c := 8) (by decide) (by decide)
    have hd180 := hT.hd (c := 180) (by decide) (by decide)
    have r0 := hT.ref (c := 177) (i := 0) (g := 7) (by decide) (by decide) (by decide) (lo := 0) (hi' := 0) rfl rfl
    have r4 := hT.ref (c := 177) (i := 4) (g := 180) (by decide) (by decide) (by decide) (lo := 0) (hi' := 0) rfl rfl
    have r8 := hT.ref (c := 7) (i := 0) (g := 8) (by decide) (by decide) (by decide) (lo := 0) (hi' := 0) rfl rfl
    refine kIload (mi := 42) (pc := 38) (len := 2) (i := 4) rfl l4 ?_
    refine kAload (len := 1) (i := 0) rfl l0 ?_
    refine kGetf (len := 3) (j := 200) rfl hd (by decide) r0 ?_
    refine kGetf (len := 3) (j := 602) rfl hd7 (by decide) hc ?_
    by_cases g : cnt.toInt ≤ k.toInt
    · refine kIcT (len := 3) (t := 123) rfl rfl (c_ge g) ?_
      refine kIconst (len := 1) (v := 1) rfl ?_
      exact kRetI (len := 1) rfl (Or.inr ⟨rfl, Or.inr rfl⟩) (post 1 M' (Or.inr rfl) hT hX hF)
    · refine kIcF (len := 3) (t := 123) rfl rfl (c_nge (by omega)) ?_
      have ek : (k + 1).toInt = k.toInt + 1 := i32_inc (by omega) (by omega)
      have hbit := un_bit (x := x) (y := k) (by omega) (by omega)
      have hcb : cb (un x) (k + 1).toInt.toNat = cb (un x) k.toInt.toNat + un x / 2 ^ k.toInt.toNat % 2 := by
        rw [show (k + 1).toInt.toNat = k.toInt.toNat + 1 by omega]
        rfl
      have hmon : cb (un x) (k + 1).toInt.toNat ≤ 4 := by
        have := cb_mono (x := un x) (n := (k + 1).toInt.toNat) (64 - (k + 1).toInt.toNat)
        rw [show (k + 1).toInt.toNat + (64 - (k + 1).toInt.toNat) = 64 by omega] at this
        omega
      have next : ∀ (M2 : Mem) (sc2 : Int32), aTp s M2 → tXI γ M2 → aFr cm_42.2.2.2.2.2 M M2 → mSlot M2 7 2 = some (.int cnt) → mSlot M2 177 5 = some (.int sc2) → sc2.toInt = ((cb (un x) (k + 1).toInt.toNat : Nat) : Int) → Ok d 42 117 L [] M2 Q := by
        intro M2 sc2 t1 t2 t3 t4 t5 t6
        refine kIinc (mi := 42) (pc := 117) (len := 3) rfl l4 (by decide) ?_
        refine kGoto (len := 3) (t := 38) rfl rfl ?_
        exact ih _ M2 (k + 1) sc2 (by omega) (by omega) (by omega) (mLd_st1_ref (by decide) l0) (mLd_st1 (by decide) l1 (fun e => absurd e (by decide))) (mLd_st1_int (by decide) l3) mLd_st1_i t1 t2 t3 t4 t5 t6
      have no : Ok d 42 94 L [] M' Q := by
        refine kIconst (mi := 42) (pc := 94) (len := 1) (v := 0) rfl ?_
        exact kRetI (len := 1) rfl (Or.inr ⟨rfl, Or.inl rfl⟩) (post 0 M' (Or.inl rfl) hT hX hF)
      refine kLload (len := 1) (i := 1) rfl l1 ?_
      refine kIload (len := 2) (i := 4) rfl l4 ?_
      refine kLushr (len := 1) rfl ?_
      refine kLdc (len := 1) (j := 1) rfl ?_
      refine kLand (len := 1) rfl ?_
      refine kLdc (len := 1) (j := 0) rfl ?_
      refine kLcmp (len := 1) rfl ?_
      by_cases z : un x / 2 ^ k.toInt.toNat % 2 = 0
      · have e0 : lg_cmp (shr x k &&& 1) 0 = 0 := lg_zero.mpr (hbit.trans z)
        refine kIfT (len := 3) (t := 117) rfl rfl (decide_eq_true (show lg_cmp (shr x k &&& 1) 0 = 0 from e0)) ?_
        exact next M' sc hT hX hF hc hs (by omega)
      · have e0 : ¬ lg_cmp (shr x k &&& 1) 0 = 0 := fun c => z (hbit.symm.trans (lg_zero.mp c))
        refine kIfF (len := 3) (t := 117) rfl rfl (decide_eq_false (show ¬ lg_cmp (shr x k &&& 1) 0 = 0 from e0)) ?_
        obtain ⟨w, hw, wt⟩ := hT.get (c := 8) (i := k.toInt.toNat) (by decide) (by decide) (by show _ < 40; omega)
        obtain ⟨a, rfl, a2, a3, a4⟩ := wt
        have a4 : tGrp a = 10 := by
          cases List.mem_cons.mp a4 with
          | inl e => exact e
          | inr e => cases e
        have hda := hT.hd a2 a3
        rw [a4] at hda
        obtain ⟨y, hy⟩ := t10_int hT a2 a3 a4
        refine kAload (len := 1) (i := 0) rfl l0 ?_
        refine kGetf (len := 3) (j := 200) rfl hd (by decide) r0 ?_
        refine kGetf (len := 3) (j := 600) rfl hd7 (by decide) r8 ?_
        refine kIload (len := 2) (i := 4) rfl l4 ?_
        refine kAald (len := 1) (n := 40) rfl hd8 (by omega) (by show k.toInt < 40; omega) hw ?_
        refine Ok.call (j := 27) (len := 3) rfl (Or.inr (Or.inl rfl)) (by decide) (mCall_27 hd1 hda) ?_
        have after : Ok d 42 77 L [] M' Q := by
          refine kAload (mi := 42) (pc := 77) (len := 1) (i := 0) rfl l0 ?_
          refine kGetf (len := 3) (j := 200) rfl hd (by decide) r0 ?_
          refine kGetf (len := 3) (j := 600) rfl hd7 (by decide) r8 ?_
          refine kIload (len := 2) (i := 4) rfl l4 ?_
          refine kAald (len := 1) (n := 40) rfl hd8 (by omega) (by show k.toInt < 40; omega) hw ?_
          refine kGetf (len := 3) (j := 103) rfl hda (by decide) hy ?_
          refine kIload (len := 1) (i := 3) rfl l3 ?_
          cases hq : mCond .le y se with
          | false =>
            refine kIcF (len := 3) (t := 96) rfl rfl hq ?_
            exact no
          | true =>
            refine kIcT (len := 3) (t := 96) rfl rfl hq ?_
            have es : (sc + 1).toInt = sc.toInt + 1 := i32_inc (by omega) (by omega)
            refine kAload (len := 1) (i := 0) rfl l0 ?_
            refine kGetf (len := 3) (j := 204) rfl hd (by decide) r4 ?_
            refine kAload (len := 1) (i := 0) rfl l0 ?_
            refine kGetf (len := 3) (j := 205) rfl hd (by decide) hs ?_
            refine kIload (len := 2) (i := 4) rfl l4 ?_
            refine kIast (len := 1) (n := 4) rfl hd180 (by decide) (by omega) (by show sc.toInt < 4; omega) ?_
            refine kAload (len := 1) (i := 0) rfl l0 ?_
            refine kDupR (len := 1) rfl ?_
            refine kGetf (len := 3) (j := 205) rfl (mHd_put.trans hd) (by decide) ((mSlot_put_ne (Or.inl (by decide))).trans hs) ?_
            refine kIconst (len := 1) (v := 1) rfl ?_
            refine kAdd (len := 1) rfl ?_
            refine kPutf (len := 3) (j := 205) rfl (mHd_put.trans hd) (by decide) (by decide) rfl ?_
            refine next (mPut (mPut M' 180 sc.toInt.toNat (.int k)) 177 5 (.int (sc + 1))) (sc + 1) ((hT.put (a := 180) (i := sc.toInt.toNat) (v := .int k) (by decide) (by decide) (aTyI (lo := 0) (hi := 39) (gs := []) (by omega) (by omega))).put (a := 177) (i := 5) (v := .int (sc + 1)) (by decide) (by decide) (aTyI (lo := 0) (hi := 4) (gs := []) (by omega) (by omega))) ?_ (hF.tr ((aFr_arr (by decide) (fun _ => rfl)).tr (aFr_put rfl))) ((mSlot_put_ne (Or.inl (by decide))).trans ((mSlot_put_ne (Or.inl (by decide))).trans hc)) (mSlot_put_eq (mHd_put.trans hd) (by decide)) (by omega)
            unfold tXI
            rw [xv_np (fun _ => rfl), xv_np (fun _ => rfl)]
            exact hX
        refine he_run hT a2 a3 a4 rfl ?_ ?_
        · refine kIfF (mi := 42) (len := 3) (t := 94) rfl rfl rfl ?_
          exact after
        · refine kIfT (mi := 42) (len := 3) (t := 94) rfl rfl rfl ?_
          exact no
theorem cm_42_ok {s : List Int32} : cSound s cm_42 := by
  intro γ d σ L M hd0 h
  have hd0 : 60 ≤ d := hd0
  have l0 := eR h (i := 0) (g := 177) (c := 0) rfl rfl
  obtain ⟨se, l3, es⟩ := eI h (i := 3) (sy := 1) (c := 0) rfl
  obtain ⟨x, l1⟩ : ∃ x, mLd L 1 = some (.long x) := by
    rcases h.2.1 1 (3, 0, 0) rfl with h0 | ⟨w, h1, x, rfl⟩
    · cases h0
    · exact ⟨x, h1⟩
  have b1 := eB h (i := 1) (lo := 0) (hi := 999) rfl
  have s0 := h.1.2.1.1
  have h8 : x8 (s, γ) := h.2.2.2.1.2
  have hX : tXI γ M := h.2.2.2.2.2.2
  have hT := aTp_of h.2.2.2
  have hd := hT.hd (c := 177) (by decide) (by decide)
  have hd7 := hT.hd (c := 7) (by decide) (by decide)
  have r0 := hT.ref (c := 177) (i := 0) (g := 7) (by decide) (by decide) (by decide) (lo := 0) (hi' := 0) rfl rfl
  obtain ⟨cnt, hc, c0, c1⟩ := hT.int (c := 7) (i := 2) (by decide) (by decide) (by decide) (lo := 0) (hi' := 40) (gs := []) rfl
  have post : ∀ (r : Int32) M', r = 0 ∨ r = 1 → aTp s M' → tXI γ M' → aFr cm_42.2.2.2.2.2 M M' → aFr cm_42.2.2.2.2.2 M M' ∧ ∃ γ', gFr cm_42.2.2.2.2.2 γ γ' ∧ ∃ o, o ∈ cm_42.2.2.2.2.1 ∧ ∃ σ', aExt cm_42.2.2.2.1.1.1.length σ σ' ∧ aHold (s, γ') σ' o [] (some (.int r) : Option Value).toList M' := by
    intro r M' hr t1 t2 t3
    have rr : 0 ≤ r.toInt ∧ r.toInt ≤ 1 := by
      rcases hr with rfl | rfl <;> decide
    refine ⟨t3, γ, gFr.rf, _, List.Mem.head _, aUp σ 2 r.toInt, aUp_ext, ?_⟩
    exact mkHold (by decide) s0 ⟨b00 s0, b1, ⟨rr.1, rr.2⟩, True.intro⟩ True.intro True.intro ⟨⟨by decide, r, rfl, (Int.add_zero _).symm⟩, True.intro⟩ (aMem_mk h8 t1 t2)
  have no : Ok d 42 28 L [] M (fun r M' => aFr cm_42.2.2.2.2.2 M M' ∧ ∃ γ', gFr cm_42.2.2.2.2.2 γ γ' ∧ ∃ o, o ∈ cm_42.2.2.2.2.1 ∧ ∃ σ', aExt cm_42.2.2.2.1.1.1.length σ σ' ∧ aHold (s, γ') σ' o [] r.toList M') := by
    refine kIconst (mi := 42) (pc := 28) (len := 1) (v := 0) rfl ?_
    exact kRetI (len := 1) rfl (Or.inr ⟨rfl, Or.inl rfl⟩) (post 0 M (Or.inl rfl) hT hX aFr.rf)
  refine kLload (mi := 42) (pc := 0) (len := 1) (i := 1) rfl l1 ?_
  refine kLdc (len := 1) (j := 0) rfl ?_
  refine kLcmp (len := 1) rfl ?_
  cases q1 : mCond .eq (lg_cmp x (mKL.getD 0 0)) 0 with
  | true => exact kIfT (len := 3) (t := 28) rfl rfl q1 no
  | false =>
    refine kIfF (len := 3) (t := 28) rfl rfl q1 ?_
    refine kLload (len := 1) (i := 1) rfl l1 ?_
    refine kAload (len := 1) (i := 0) rfl l0 ?_
    refine kGetf (len := 3) (j := 200) rfl hd (by decide) r0 ?_
    refine kGetf (len := 3) (j := 602) rfl hd7 (by decide) hc ?_
    refine kLushr (len := 1) rfl ?_
    refine kLdc (len := 1) (j := 0) rfl ?_
    refine kLcmp (len := 1) rfl ?_
    cases q2 : mCond .ne (lg_cmp (shr x cnt) (mKL.getD 0 0)) 0 with
    | true => exact kIfT (len := 3) (t := 28) rfl rfl q2 no
    | false =>
      refine kIfF (len := 3) (t := 28) rfl rfl q2 ?_
      refine kLload (len := 1) (i := 1) rfl l1 ?_
      refine Ok.call (j := 280) (len := 3) rfl (Or.inl rfl) (by decide) (mCall_280 (by omega)) ?_
      refine bc_run (x := x) rfl ?_
      intro r hr
      refine kIconst (mi := 42) (len := 1) (v := 4) rfl ?_
      by_cases q3 : r.toInt ≤ 4
      · refine kIcT (len := 3) (t := 30) rfl rfl (decide_eq_true (Int32.le_iff_toInt_le.mpr q3)) ?_
        refine kAload (len := 1) (i := 0) rfl l0 ?_
        refine kIconst (len := 1) (v := 0) rfl ?_
        refine kPutf (len := 3) (j := 205) rfl hd (by decide) (by decide) rfl ?_
        refine kIconst (len := 1) (v := 0) rfl ?_
        refine kIstore (len := 2) (i := 4) rfl (by decide) ?_
        refine ms_loop (s := s) (γ := γ) (M := M) (x := x) (cnt := cnt) (se := se) (by omega) c0 c1 (by omega) post cnt.toInt.toNat _ (mPut M 177 5 (.int 0)) 0 0 (by show cnt.toInt - 0 ≤ _; omega) (Int.le_refl 0) c0 (mLd_st1_ref (by decide) l0) (mLd_st1 (by decide) l1 (fun e => absurd e (by decide))) (mLd_st1_int (by decide) l3) mLd_st1_i (hT.put (a := 177) (i := 5) (v := .int 0) (by decide) (by decide) (aTyI (lo := 0) (hi := 4) (gs := []) (by decide) (by decide))) ?_ (aFr_put rfl) ((mSlot_put_ne (Or.inl (by decide))).trans hc) (mSlot_put_eq hd (by decide)) rfl
        unfold tXI
        rw [xv_np (fun _ => rfl)]
        exact hX
      · refine kIcF (len := 3) (t := 30) rfl rfl (decide_eq_false (fun c => q3 (Int32.le_iff_toInt_le.mp c))) ?_
        exact no

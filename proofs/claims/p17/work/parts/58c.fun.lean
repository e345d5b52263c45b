/-! what conditions say, in whole numbers; cells that hold references for good; frames -/
def b2 (b : Bool) : Int32 := bif b then 1 else 0
theorem mB_eq {b : Bool} : (mCond .eq (b2 b) 0 = true → b = false) ∧ (mCond .eq (b2 b) 0 = false → b = true) := by
  cases b with
  | true => exact ⟨fun h => absurd h (by decide), fun _ => rfl⟩
  | false => exact ⟨fun _ => rfl, fun h => absurd h (by decide)⟩
theorem mB_ne {b : Bool} : (mCond .ne (b2 b) 0 = true → b = true) ∧ (mCond .ne (b2 b) 0 = false → b = false) := by
  cases b with
  | true => exact ⟨fun _ => rfl, fun h => absurd h (by decide)⟩
  | false => exact ⟨fun h => absurd h (by decide), fun _ => rfl⟩
theorem mC_eq {x y : Int32} : (mCond .eq x y = true → x.toInt = y.toInt) ∧ (mCond .eq x y = false → ¬ x.toInt = y.toInt) := ⟨fun h => congrArg Int32.toInt (of_decide_eq_true h), fun h e => of_decide_eq_false h (Int32.toInt_inj.mp e)⟩
theorem mC_ne {x y : Int32} : (mCond .ne x y = true → ¬ x.toInt = y.toInt) ∧ (mCond .ne x y = false → x.toInt = y.toInt) := ⟨fun h e => of_decide_eq_true h (Int32.toInt_inj.mp e), fun h => congrArg Int32.toInt (Decidable.not_not.mp (of_decide_eq_false h))⟩
theorem mC_lt {x y : Int32} : (mCond .lt x y = true → x.toInt < y.toInt) ∧ (mCond .lt x y = false → ¬ x.toInt < y.toInt) := ⟨fun h => Int32.lt_iff_toInt_lt.mp (of_decide_eq_true h), fun h e => of_decide_eq_false h (Int32.lt_iff_toInt_lt.mpr e)⟩
theorem mC_gt {x y : Int32} : (mCond .gt x y = true → y.toInt < x.toInt) ∧ (mCond .gt x y = false → ¬ y.toInt < x.toInt) := ⟨fun h => Int32.lt_iff_toInt_lt.mp (of_decide_eq_true h), fun h e => of_decide_eq_false h (Int32.lt_iff_toInt_lt.mpr e)⟩
theorem mC_ge {x y : Int32} : (mCond .ge x y = true → ¬ x.toInt < y.toInt) ∧ (mCond .ge x y = false → x.toInt < y.toInt) := ⟨fun h => by have := Int32.le_iff_toInt_le.mp (of_decide_eq_true h); omega, fun h => by have := mt Int32.le_iff_toInt_le.mpr (of_decide_eq_false h); omega⟩
theorem mC_le {x y : Int32} : (mCond .le x y = true → ¬ y.toInt < x.toInt) ∧ (mCond .le x y = false → y.toInt < x.toInt) := ⟨fun h => by have := Int32.le_iff_toInt_le.mp (of_decide_eq_true h); omega, fun h => by have := mt Int32.le_iff_toInt_le.mpr (of_decide_eq_false h); omega⟩
/-- nothing but the cells from lo to hi has changed -/
def Fx (lo hi : Nat) (M M' : Mem) : Prop := ∀ c i, c < lo ∨ hi < c → mSlot M' c i = mSlot M c i
theorem Fx.rf {lo hi : Nat} {M : Mem} : Fx lo hi M M := fun _ _ _ => rfl
theorem Fx.tr {lo hi : Nat} {A B C : Mem} (h1 : Fx lo hi A B) (h2 : Fx lo hi B C) : Fx lo hi A C := fun c i h => (h2 c i h).trans (h1 c i h)
theorem Fx.up {lo hi lo' hi' : Nat} {A B : Mem} (h : Fx lo hi A B) (h1 : lo' ≤ lo) (h2 : hi ≤ hi') : Fx lo' hi' A B := fun c i hc => h c i (by omega)
theorem Fx.put {lo hi a i : Nat} {M : Mem} {v : Value} (h1 : lo ≤ a) (h2 : a ≤ hi) : Fx lo hi M (mPut M a i v) := fun c j h => mSlot_put_ne (Or.inl (by omega))
theorem Fx.si {lo hi c i : Nat} {M M' : Mem} (h : Fx lo hi M M') (hc : c < lo ∨ hi < c) : iv M' c i = iv M c i := by unfold iv; rw [h c i hc]
theorem Fx.sl {lo hi c i : Nat} {M M' : Mem} (h : Fx lo hi M M') (hc : c < lo ∨ hi < c) : lv M' c i = lv M c i := by unfold lv; rw [h c i hc]
theorem Rf.fx {lo hi : Nat} {M M' : Mem} (h : Rf M) (f : Fx lo hi M M') (h1 : 142 < lo) : Rf M' :=
  ⟨fun e he => (f 8 e (by omega)).trans (h.1 e he), fun k hk => (f 129 k (by omega)).trans (h.2.1 k hk), fun p hp => (f 99 p (by omega)).trans (h.2.2.1 p hp), fun i hi => (f 142 i (by omega)).trans (h.2.2.2 i hi)⟩
/-- the laws' objects, by number -/
theorem eLaw {n d mi pc len : Nat} {L : MLoc} {st : List Value} {M : Mem} {r : Option Value} {M1 : Mem} {x : Int32} (hS : Sh M) (hR : Rf M) (hat : mAt mi pc = some (len, .aaload)) (h : En n d mi pc L (.int x :: .ref 129 :: st) M r M1) : (0 ≤ x.toInt ∧ x.toInt.toNat < 3) ∧ En n d mi (pc + len) L (.ref (152 + 6 * x.toInt.toNat) :: st) M r M1 := by
  obtain ⟨⟨h0, h1⟩, b, hb, _, h⟩ := eAald hS (by decide) (by decide) rfl hat h
  have h1 : x.toInt.toNat < 3 := h1
  rw [hR.2.1 _ h1] at hb
  cases hb
  exact ⟨⟨h0, h1⟩, h⟩
theorem i32_incU {x : Int32} (h : x.toInt < 2147483647) : (x + 1).toInt = x.toInt + 1 := i32_add (by show -2147483648 ≤ x.toInt + 1; have := (i32_rng x).1; omega) (by show x.toInt + 1 ≤ 2147483647; omega)

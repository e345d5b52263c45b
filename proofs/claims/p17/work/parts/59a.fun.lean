/-! rows and deeds, forwards (by hand) -/
theorem Ok_meq {d mi pc : Nat} {L : MLoc} {st : List Value} {M N : Mem} {Q : Option Value → Mem → Prop} (e : N = M) (h : Ok d mi pc L st N Q) : Ok d mi pc L st M Q := e ▸ h
theorem row_g9 : ∀ p, p < 10 → 2 ≤ 100 + p ∧ 100 + p < tEnd ∧ tGrp (100 + p) = 100 := by decide
theorem row_p9 {p : Nat} (h : p < 10) : 2 ≤ 100 + p ∧ 100 + p < tEnd ∧ tGrp (100 + p) = 100 := row_g9 p h
theorem row_hd {s : List Int32} {M : Mem} (hT : aTp s M) {p : Nat} (h : p < 10) : mHd M (100 + p) = some (64, 40) := by
  obtain ⟨a, b, c⟩ := row_g9 p h
  rw [hT.hd a b, c]
  rfl
theorem row_sl {s : List Int32} {M : Mem} (hT : aTp s M) {p i : Nat} (h : p < 10) (hi : i < 40) : mSlot M (100 + p) i = some (.int (iv M (100 + p) i)) := by
  obtain ⟨a, b, c⟩ := row_g9 p h
  exact (Sh.of hT).slI a b (by rw [c]; exact hi) (by rw [c]; rfl)
theorem row_ty {s : List Int32} {M : Mem} (hT : aTp s M) {p i : Nat} (h : p < 10) (hi : i < 40) : 0 ≤ (iv M (100 + p) i).toInt ∧ (iv M (100 + p) i).toInt ≤ 1000000 := by
  obtain ⟨a, b, c⟩ := row_g9 p h
  obtain ⟨x, x1, x2, x3⟩ := hT.int (c := 100 + p) (i := i) a b (by rw [c]; exact hi) (lo := 0) (hi' := 1000000) (gs := []) (by rw [c]; rfl)
  rw [iv_of x1]
  exact ⟨x2, x3⟩
theorem iv_ty {s : List Int32} {M : Mem} (hT : aTp s M) {c i : Nat} (h2 : 2 ≤ c) (h3 : c < tEnd) (hi : i < tSiz (tGrp c)) {lo hi' : Int} {gs : List Nat} (ht : tTy (tGrp c) i = (1, lo, hi', gs)) : lo ≤ (iv M c i).toInt ∧ (iv M c i).toInt ≤ hi' := by
  obtain ⟨x, x1, x2, x3⟩ := hT.int h2 h3 hi ht
  rw [iv_of x1]
  exact ⟨x2, x3⟩
theorem deed_g : ∀ e, e < 40 → tGrp (10 + e) = 10 := by decide
theorem deed_b : ∀ e, e < 40 → 2 ≤ 10 + e ∧ 10 + e < tEnd := by decide
theorem deed_hd {s : List Int32} {M : Mem} (hT : aTp s M) {e : Nat} (h : e < 40) : mHd M (10 + e) = some (1, 10) := by
  obtain ⟨a, b⟩ := deed_b e h
  rw [hT.hd a b, deed_g e h]
  rfl
theorem deed_sl {s : List Int32} {M : Mem} (hT : aTp s M) {e f : Nat} (h : e < 40) (hf : f < 10) (ht : (tTy 10 f).1 = 1) : mSlot M (10 + e) f = some (.int (iv M (10 + e) f)) := by
  obtain ⟨a, b⟩ := deed_b e h
  exact (Sh.of hT).slI a b (by rw [deed_g e h]; exact hf) (by rw [deed_g e h]; exact ht)
theorem kMin {d mi pc len : Nat} {L : MLoc} {st : List Value} {M : Mem} {Q : Option Value → Mem → Prop} {x y : Int32} (hat : mAt mi pc = some (len, .invokestatic 904)) (hd : 1 ≤ d) (hs : Nat.ble (st.map fun v => v.category).sum 8 = true) (k : Ok d mi (pc + len) L (.int (if y < x then y else x) :: st) M Q) : Ok d mi pc L (.int y :: .int x :: st) M Q := by
  refine Ok.prim hat (Or.inl rfl) (by decide) ?_ k
  unfold mPrim
  rw [if_neg (by decide), if_neg (by decide), if_neg (by decide), if_neg (by decide), if_pos rfl]
  dsimp only
  rw [if_pos ⟨hd, Nat.le_of_ble_eq_true hs⟩]
theorem kDupRk {d mi pc len : Nat} {L : MLoc} {st : List Value} {M : Mem} {Q : Option Value → Mem → Prop} {a : Nat} (hat : mAt mi pc = some (len, .dup)) (k : Ok d mi (pc + len) L (.ref a :: .ref a :: st) M Q) : Ok d mi pc L (.ref a :: st) M Q := Ok.pl hat rfl k
theorem kUshrK {d mi pc len : Nat} {L : MLoc} {st : List Value} {M : Mem} {Q : Option Value → Mem → Prop} {x y : Int32} (hat : mAt mi pc = some (len, .iushr)) (k : Ok d mi (pc + len) L (.int (ushr x y) :: st) M Q) : Ok d mi pc L (.int y :: .int x :: st) M Q := Ok.pl hat rfl k
/-! a column of what is known -/
/-- column d holds f; all else is M's -/
def colS (s : List Int32) (M : Mem) (d : Nat) (f : Nat → Int) (N : Mem) : Prop := aTp s N ∧ (∀ c i, c < 100 ∨ 109 < c ∨ i ≠ d → mSlot N c i = mSlot M c i) ∧ (∀ p, p < 10 → (iv N (100 + p) d).toInt = f p) ∧ aFr [(100, 0)] M N
theorem colS_iv {s : List Int32} {M N : Mem} {d : Nat} {f : Nat → Int} (h : colS s M d f N) {c i : Nat} (hc : c < 100 ∨ 109 < c) : iv N c i = iv M c i := by
  unfold iv
  rw [h.2.1 c i (by omega)]
theorem colS_eq {s : List Int32} {M N : Mem} {d : Nat} {f g : Nat → Int} (h : colS s M d f N) (e : ∀ p, p < 10 → f p = g p) : colS s M d g N := ⟨h.1, h.2.1, fun p hp => (h.2.2.1 p hp).trans (e p hp), h.2.2.2⟩
/-- one place of the column is written -/
theorem colS_put {s : List Int32} {M N N' : Mem} {d p : Nat} {f : Nat → Int} {v : Int32} (h : colS s M d f N) (hp : p < 10) (hd : d < 40) (hT : aTp s N') (e : N' = mPut N (100 + p) d (.int v)) : colS s M d (fun q => if q = p then v.toInt else f q) N' := by
  obtain ⟨a, b, c⟩ := row_g9 p hp
  subst e
  refine ⟨hT, fun c' i hc => ?_, fun q hq => ?_, h.2.2.2.tr (aFr_put (by unfold aSlK; rw [c]; rfl))⟩
  · rw [mSlot_put_ne (by omega)]
    exact h.2.1 c' i hc
  · show (iv (mPut N (100 + p) d (.int v)) (100 + q) d).toInt = if q = p then v.toInt else f q
    by_cases w : q = p
    · subst w
      rw [if_pos rfl, iv_put_eq (Sh.of h.1) a b (by rw [c]; exact hd)]
    · rw [if_neg w, iv_put_ne (Or.inl (by omega))]
      exact h.2.2.1 q hq
set_option maxRecDepth 1000000 in
theorem bs_n : ∀ x, x < 1024 → ∀ k, k < 10 → ((Int32.ofNat x >>> (Int32.ofNat k &&& 31)) &&& (1 : Int32)) = (if Nat.testBit x k then 1 else 0) := by decide +kernel
theorem bs_i {x k : Int32} (h0 : 0 ≤ x.toInt) (h1 : x.toInt < 1024) (k0 : 0 ≤ k.toInt) (k1 : k.toInt < 10) : ((x >>> (k &&& 31)) &&& (1 : Int32)) = (if Nat.testBit x.toInt.toNat k.toInt.toNat then 1 else 0) := by
  have e := bs_n x.toInt.toNat (by omega) k.toInt.toNat (by omega)
  rw [← i32_of h0, ← i32_of k0] at e
  exact e
theorem bs_f {x k : Int32} (h0 : 0 ≤ x.toInt) (h1 : x.toInt < 1024) (k0 : 0 ≤ k.toInt) (k1 : k.toInt < 10) (h : ((x >>> (k &&& 31)) &&& (1 : Int32)).toInt = 0) : Nat.testBit x.toInt.toNat k.toInt.toNat = false := by
  rw [bs_i h0 h1 k0 k1] at h
  cases hq : Nat.testBit x.toInt.toNat k.toInt.toNat with
  | false => rfl
  | true =>
    rw [hq] at h
    exact absurd h (by decide)
theorem bs_t {x k : Int32} (h0 : 0 ≤ x.toInt) (h1 : x.toInt < 1024) (k0 : 0 ≤ k.toInt) (k1 : k.toInt < 10) (h : ¬ ((x >>> (k &&& 31)) &&& (1 : Int32)).toInt = 0) : Nat.testBit x.toInt.toNat k.toInt.toNat = true := by
  rw [bs_i h0 h1 k0 k1] at h
  cases hq : Nat.testBit x.toInt.toNat k.toInt.toNat with
  | true => rfl
  | false =>
    rw [hq] at h
    exact absurd (by decide) h

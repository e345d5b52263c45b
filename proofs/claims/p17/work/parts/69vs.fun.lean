/-! the reference's law (printed by fn21.py) -/
/-- what the telling of a law leaves as it is -/
def RZ (M M' : Mem) : Prop := ∀ c i, (c = 181 → i < 25 ∨ 33 < i) → (c < 203 ∨ 214 < c) → mSlot M' c i = mSlot M c i
theorem RZ.rf {M : Mem} : RZ M M := fun _ _ _ _ => rfl
theorem RZ.tr {A B C : Mem} (h1 : RZ A B) (h2 : RZ B C) : RZ A C := fun c i a b => (h2 c i a b).trans (h1 c i a b)
theorem RY.z {A B : Mem} (h : RY A B) : RZ A B := fun c i a b => h c i (fun q => by have := a q; omega) (by omega)
theorem RZ.put {M : Mem} {a i : Nat} {v : Value} (h : (a = 181 ∧ 25 ≤ i ∧ i ≤ 33) ∨ (203 ≤ a ∧ a ≤ 214)) : RZ M (mPut M a i v) := fun c j h1 h2 => mSlot_put_ne (by
  by_cases e : c = a
  · refine Or.inr (fun e2 => ?_)
    subst e
    subst e2
    rcases h with ⟨h, q⟩ | h
    · have := h1 h
      omega
    · omega
  · exact Or.inl e)
/-- the codes are copied -/
def CP1 (M0 : Mem) (i k : Nat) (M : Mem) : Prop := (∀ j, j < k → iv M 209 (180 * i + j) = iv M0 203 j) ∧ ∀ c x, (c ≠ 209 ∨ x < 180 * i ∨ 180 * i + k ≤ x) → mSlot M c x = mSlot M0 c x
/-- the clauses' places are copied -/
def CP2 (M0 : Mem) (i k : Nat) (M : Mem) : Prop := (∀ j, j < k → iv M 211 (12 * i + j) = iv M0 205 j ∧ (iv M 212 (12 * i + j)).toInt = 180 * (i : Int) + (iv M0 206 j).toInt ∧ (iv M 213 (12 * i + j)).toInt = 180 * (i : Int) + (iv M0 207 j).toInt ∧ (iv M 214 (12 * i + j)).toInt = 180 * (i : Int) + (iv M0 208 j).toInt) ∧ ∀ c x, ((c < 211 ∨ 214 < c) ∨ x < 12 * i ∨ 12 * i + k ≤ x) → mSlot M c x = mSlot M0 c x
theorem ix_mul {i k : Int32} {m : Int} (c : Int32) (hc : c.toInt = m) (m0 : 0 ≤ m) (m1 : m ≤ 1000) (i0 : 0 ≤ i.toInt) (i2 : i.toInt ≤ 2) (k0 : 0 ≤ k.toInt) (k1 : k.toInt ≤ 1000) : (c * i + k).toInt = m * i.toInt + k.toInt := by
  have e : i.toInt = 0 ∨ i.toInt = 1 ∨ i.toInt = 2 := by omega
  have q : (c * i).toInt = m * i.toInt := by
    rw [i32_mul (by rw [hc]; rcases e with e | e | e <;> rw [e] <;> omega) (by rw [hc]; rcases e with e | e | e <;> rw [e] <;> omega), hc]
  have r : 0 ≤ m * i.toInt ∧ m * i.toInt ≤ 2000 := by rcases e with e | e | e <;> rw [e] <;> omega
  rw [i32_add (by omega) (by omega), q]
theorem lcp_lp {i : Int32} {M0 : Mem} {d : Nat} {r : Option Value} {M1 : Mem} (i0 : 0 ≤ i.toInt) (i2 : i.toInt ≤ 2) (cb0 : 0 ≤ (iv M0 181 30).toInt) (cb : (iv M0 181 30).toInt ≤ 180) : ∀ (n : Nat) (L : MLoc) (M : Mem) (kx : Int32) (k : Nat), mLd L 0 = some (.ref 181) → mLd L 1 = some (.int i) → mLd L 4 = some (.int kx) → kx.toInt = (k : Int) → Sh M → CP1 M0 i.toInt.toNat k M → (k : Int) ≤ (iv M0 181 30).toInt → En n d 212 122 L [] M r M1 → ∃ n' L' M', mLd L' 0 = some (.ref 181) ∧ mLd L' 1 = some (.int i) ∧ Sh M' ∧ CP1 M0 i.toInt.toNat (iv M0 181 30).toInt.toNat M' ∧ En n' d 212 157 L' [] M' r M1 := by
  intro n
  induction n with
  | zero => intro L M kx k _ _ _ _ _ _ _ h; exact (En.zero (mi := 212) (pc := 122) (len := 2) rfl h).elim
  | succ n ih =>
    intro L M kx k l0 l1 l4 ek hS hc hk h
    have c30 : (iv M 181 30).toInt = (iv M0 181 30).toInt := by rw [iv_sl (hc.2 181 30 (Or.inl (by decide)))]
    replace h := eIloadS (mi := 212) (pc := 122) (len := 2) (i := 4) rfl l4 h
    replace h := eAload (mi := 212) (pc := 124) (len := 1) (i := 0) rfl l0 h
    replace h := eGetI (a := 181) (j := 1130) hS (by decide) (by decide) rfl (mi := 212) (pc := 125) (len := 3) rfl h
    rcases eIc (mi := 212) (pc := 128) (len := 3) (t := 157) rfl rfl h with ⟨c1, h⟩ | ⟨c1, h⟩
    · replace c1 : ¬ kx.toInt < (iv M 181 30).toInt := mC_ge.1 c1
      have ke : k = (iv M0 181 30).toInt.toNat := by have q := c1; rw [ek, c30] at q; omega
      rw [ke] at hc
      exact ⟨_, _, _, l0, l1, hS, hc, h⟩
    · replace c1 : kx.toInt < (iv M 181 30).toInt := mC_ge.2 c1
      have k9 : k < 180 := by have q := c1; rw [ek, c30] at q; omega
      have ekn : kx.toInt.toNat = k := by omega
      replace h := eAload (mi := 212) (pc := 131) (len := 1) (i := 0) rfl l0 h
      replace h := eGetR (a := 181) (j := 1140) (g := 209) hS (by decide) (by decide) rfl rfl rfl (mi := 212) (pc := 132) (len := 3) rfl h
      replace h := eConst (mi := 212) (pc := 135) (len := 3) (v := 180) rfl h
      replace h := eIload (mi := 212) (pc := 138) (len := 1) (i := 1) rfl l1 h
      replace h := eMul (mi := 212) (pc := 139) (len := 1) rfl h
      replace h := eIload (mi := 212) (pc := 140) (len := 2) (i := 4) rfl l4 h
      replace h := eAdd (mi := 212) (pc := 142) (len := 1) rfl h
      replace h := eAload (mi := 212) (pc := 143) (len := 1) (i := 0) rfl l0 h
      replace h := eGetR (a := 181) (j := 1134) (g := 203) hS (by decide) (by decide) rfl rfl rfl (mi := 212) (pc := 144) (len := 3) rfl h
      replace h := eIload (mi := 212) (pc := 147) (len := 2) (i := 4) rfl l4 h
      obtain ⟨b2, h⟩ := eIald (x := kx) hS (a := 203) (by decide) (by decide) rfl (mi := 212) (pc := 149) (len := 1) rfl h
      obtain ⟨N4, eN4⟩ : ∃ X_, X_ = mPut M 209 (((180 : Int32) * i) + kx).toInt.toNat (.int (iv M 203 kx.toInt.toNat)) := ⟨_, rfl⟩
      obtain ⟨b3, h⟩ := eIast (x := (((180 : Int32) * i) + kx)) (N := N4) hS (a := 209) (by decide) (by decide) eN4 (mi := 212) (pc := 150) (len := 1) rfl h
      have hS5 : Sh N4 := by rw [eN4]; exact hS.put (by decide) (by decide) rfl
      replace h := eIinc (mi := 212) (pc := 151) (len := 3) (i := 4) (k := 1) rfl l4 (by decide) h
      replace h := eGoto (mi := 212) (pc := 154) (len := 3) (t := 122) rfl rfl h
      have ix : (((180 : Int32) * i) + kx).toInt.toNat = 180 * i.toInt.toNat + k := by rw [ix_mul (m := 180) 180 rfl (by decide) (by decide) i0 i2 (by omega) (by omega)]; omega
      have hc2 : CP1 M0 i.toInt.toNat (k + 1) N4 := by
        refine ⟨fun j hj => ?_, fun c x hx => ?_⟩
        · by_cases q : j = k
          · subst q
            rw [eN4, ix, iv_put_eq hS (by decide) (by decide) (by show 180 * i.toInt.toNat + j < 540; omega), ekn]
            exact iv_sl (hc.2 203 j (Or.inl (by decide)))
          · rw [eN4, ix, iv_put_ne (Or.inr (by omega))]
            exact hc.1 j (by omega)
        · rw [eN4, ix, mSlot_put_ne (by omega)]
          exact hc.2 c x (by omega)
      exact ih _ _ _ (k + 1) (mLd_st1_ref (by decide) l0) (mLd_st1_int (by decide) l1) mLd_st1_i (by show (kx + (1 : Int32)).toInt = ((k + 1 : Nat) : Int); rw [ic1 ek (by omega) (by omega)]; rfl) hS5 hc2 (by omega) h
theorem lcq_lp {i : Int32} {M0 : Mem} {d : Nat} {r : Option Value} {M1 : Mem} (i0 : 0 ≤ i.toInt) (i2 : i.toInt ≤ 2) (cb0 : 0 ≤ (iv M0 181 32).toInt) (cb : (iv M0 181 32).toInt ≤ 12) (sb0 : ∀ j : Nat, (j : Int) < (iv M0 181 32).toInt → (0 ≤ (iv M0 206 j).toInt ∧ (iv M0 206 j).toInt ≤ 180) ∧ (0 ≤ (iv M0 207 j).toInt ∧ (iv M0 207 j).toInt ≤ 180) ∧ 0 ≤ (iv M0 208 j).toInt ∧ (iv M0 208 j).toInt ≤ 180) : ∀ (n : Nat) (L : MLoc) (M : Mem) (kx : Int32) (k : Nat), mLd L 0 = some (.ref 181) → mLd L 1 = some (.int i) → mLd L 4 = some (.int kx) → kx.toInt = (k : Int) → Sh M → CP2 M0 i.toInt.toNat k M → (k : Int) ≤ (iv M0 181 32).toInt → En n d 212 160 L [] M r M1 → ∃ n' L' M', mLd L' 0 = some (.ref 181) ∧ mLd L' 1 = some (.int i) ∧ Sh M' ∧ CP2 M0 i.toInt.toNat (iv M0 181 32).toInt.toNat M' ∧ En n' d 212 269 L' [] M' r M1 := by
  intro n
  induction n with
  | zero => intro L M kx k _ _ _ _ _ _ _ h; exact (En.zero (mi := 212) (pc := 160) (len := 2) rfl h).elim
  | succ n ih =>
    intro L M kx k l0 l1 l4 ek hS hc hk h
    have c32 : (iv M 181 32).toInt = (iv M0 181 32).toInt := by rw [iv_sl (hc.2 181 32 (Or.inl (by decide)))]
    replace h := eIloadS (mi := 212) (pc := 160) (len := 2) (i := 4) rfl l4 h
    replace h := eAload (mi := 212) (pc := 162) (len := 1) (i := 0) rfl l0 h
    replace h := eGetI (a := 181) (j := 1132) hS (by decide) (by decide) rfl (mi := 212) (pc := 163) (len := 3) rfl h
    rcases eIc (mi := 212) (pc := 166) (len := 3) (t := 269) rfl rfl h with ⟨c1, h⟩ | ⟨c1, h⟩
    · replace c1 : ¬ kx.toInt < (iv M 181 32).toInt := mC_ge.1 c1
      have ke : k = (iv M0 181 32).toInt.toNat := by have q := c1; rw [ek, c32] at q; omega
      rw [ke] at hc
      exact ⟨_, _, _, l0, l1, hS, hc, h⟩
    · replace c1 : kx.toInt < (iv M 181 32).toInt := mC_ge.2 c1
      have k9 : k < 12 := by have q := c1; rw [ek, c32] at q; omega
      have ekn : kx.toInt.toNat = k := by omega
      have sb := sb0 k (by have q := c1; rw [ek, c32] at q; omega)
      replace h := eAload (mi := 212) (pc := 169) (len := 1) (i := 0) rfl l0 h
      replace h := eGetR (a := 181) (j := 1142) (g := 211) hS (by decide) (by decide) rfl rfl rfl (mi := 212) (pc := 170) (len := 3) rfl h
      replace h := eConst (mi := 212) (pc := 173) (len := 2) (v := 12) rfl h
      replace h := eIload (mi := 212) (pc := 175) (len := 1) (i := 1) rfl l1 h
      replace h := eMul (mi := 212) (pc := 176) (len := 1) rfl h
      replace h := eIload (mi := 212) (pc := 177) (len := 2) (i := 4) rfl l4 h
      replace h := eAdd (mi := 212) (pc := 179) (len := 1) rfl h
      replace h := eAload (mi := 212) (pc := 180) (len := 1) (i := 0) rfl l0 h
      replace h := eGetR (a := 181) (j := 1136) (g := 205) hS (by decide) (by decide) rfl rfl rfl (mi := 212) (pc := 181) (len := 3) rfl h
      replace h := eIload (mi := 212) (pc := 184) (len := 2) (i := 4) rfl l4 h
      obtain ⟨b2, h⟩ := eIald (x := kx) hS (a := 205) (by decide) (by decide) rfl (mi := 212) (pc := 186) (len := 1) rfl h
      obtain ⟨N4, eN4⟩ : ∃ X_, X_ = mPut M 211 (((12 : Int32) * i) + kx).toInt.toNat (.int (iv M 205 kx.toInt.toNat)) := ⟨_, rfl⟩
      obtain ⟨b3, h⟩ := eIast (x := (((12 : Int32) * i) + kx)) (N := N4) hS (a := 211) (by decide) (by decide) eN4 (mi := 212) (pc := 187) (len := 1) rfl h
      have hS5 : Sh N4 := by rw [eN4]; exact hS.put (by decide) (by decide) rfl
      replace h := eAload (mi := 212) (pc := 188) (len := 1) (i := 0) rfl l0 h
      replace h := eGetR (a := 181) (j := 1143) (g := 212) hS5 (by decide) (by decide) rfl rfl rfl (mi := 212) (pc := 189) (len := 3) rfl h
      replace h := eConst (mi := 212) (pc := 192) (len := 2) (v := 12) rfl h
      replace h := eIload (mi := 212) (pc := 194) (len := 1) (i := 1) rfl l1 h
      replace h := eMul (mi := 212) (pc := 195) (len := 1) rfl h
      replace h := eIload (mi := 212) (pc := 196) (len := 2) (i := 4) rfl l4 h
      replace h := eAdd (mi := 212) (pc := 198) (len := 1) rfl h
      replace h := eConst (mi := 212) (pc := 199) (len := 3) (v := 180) rfl h
      replace h := eIload (mi := 212) (pc := 202) (len := 1) (i := 1) rfl l1 h
      replace h := eMul (mi := 212) (pc := 203) (len := 1) rfl h
      replace h := eAload (mi := 212) (pc := 204) (len := 1) (i := 0) rfl l0 h
      replace h := eGetR (a := 181) (j := 1137) (g := 206) hS5 (by decide) (by decide) rfl rfl rfl (mi := 212) (pc := 205) (len := 3) rfl h
      replace h := eIload (mi := 212) (pc := 208) (len := 2) (i := 4) rfl l4 h
      obtain ⟨b6, h⟩ := eIald (x := kx) hS5 (a := 206) (by decide) (by decide) rfl (mi := 212) (pc := 210) (len := 1) rfl h
      replace h := eAdd (mi := 212) (pc := 211) (len := 1) rfl h
      obtain ⟨N8, eN8⟩ : ∃ X_, X_ = mPut N4 212 (((12 : Int32) * i) + kx).toInt.toNat (.int (((180 : Int32) * i) + (iv N4 206 kx.toInt.toNat))) := ⟨_, rfl⟩
      obtain ⟨b7, h⟩ := eIast (x := (((12 : Int32) * i) + kx)) (N := N8) hS5 (a := 212) (by decide) (by decide) eN8 (mi := 212) (pc := 212) (len := 1) rfl h
      have hS9 : Sh N8 := by rw [eN8]; exact hS5.put (by decide) (by decide) rfl
      replace h := eAload (mi := 212) (pc := 213) (len := 1) (i := 0) rfl l0 h
      replace h := eGetR (a := 181) (j := 1144) (g := 213) hS9 (by decide) (by decide) rfl rfl rfl (mi := 212) (pc := 214) (len := 3) rfl h
      replace h := eConst (mi := 212) (pc := 217) (len := 2) (v := 12) rfl h
      replace h := eIload (mi := 212) (pc := 219) (len := 1) (i := 1) rfl l1 h
      replace h := eMul (mi := 212) (pc := 220) (len := 1) rfl h
      replace h := eIload (mi := 212) (pc := 221) (len := 2) (i := 4) rfl l4 h
      replace h := eAdd (mi := 212) (pc := 223) (len := 1) rfl h
      replace h := eConst (mi := 212) (pc := 224) (len := 3) (v := 180) rfl h
      replace h := eIload (mi := 212) (pc := 227) (len := 1) (i := 1) rfl l1 h
      replace h := eMul (mi := 212) (pc := 228) (len := 1) rfl h
      replace h := eAload (mi := 212) (pc := 229) (len := 1) (i := 0) rfl l0 h
      replace h := eGetR (a := 181) (j := 1138) (g := 207) hS9 (by decide) (by decide) rfl rfl rfl (mi := 212) (pc := 230) (len := 3) rfl h
      replace h := eIload (mi := 212) (pc := 233) (len := 2) (i := 4) rfl l4 h
      obtain ⟨b10, h⟩ := eIald (x := kx) hS9 (a := 207) (by decide) (by decide) rfl (mi := 212) (pc := 235) (len := 1) rfl h
      replace h := eAdd (mi := 212) (pc := 236) (len := 1) rfl h
      obtain ⟨N12, eN12⟩ : ∃ X_, X_ = mPut N8 213 (((12 : Int32) * i) + kx).toInt.toNat (.int (((180 : Int32) * i) + (iv N8 207 kx.toInt.toNat))) := ⟨_, rfl⟩
      obtain ⟨b11, h⟩ := eIast (x := (((12 : Int32) * i) + kx)) (N := N12) hS9 (a := 213) (by decide) (by decide) eN12 (mi := 212) (pc := 237) (len := 1) rfl h
      have hS13 : Sh N12 := by rw [eN12]; exact hS9.put (by decide) (by decide) rfl
      replace h := eAload (mi := 212) (pc := 238) (len := 1) (i := 0) rfl l0 h
      replace h := eGetR (a := 181) (j := 1145) (g := 214) hS13 (by decide) (by decide) rfl rfl rfl (mi := 212) (pc := 239) (len := 3) rfl h
      replace h := eConst (mi := 212) (pc := 242) (len := 2) (v := 12) rfl h
      replace h := eIload (mi := 212) (pc := 244) (len := 1) (i := 1) rfl l1 h
      replace h := eMul (mi := 212) (pc := 245) (len := 1) rfl h
      replace h := eIload (mi := 212) (pc := 246) (len := 2) (i := 4) rfl l4 h
      replace h := eAdd (mi := 212) (pc := 248) (len := 1) rfl h
      replace h := eConst (mi := 212) (pc := 249) (len := 3) (v := 180) rfl h
      replace h := eIload (mi := 212) (pc := 252) (len := 1) (i := 1) rfl l1 h
      replace h := eMul (mi := 212) (pc := 253) (len := 1) rfl h
      replace h := eAload (mi := 212) (pc := 254) (len := 1) (i := 0) rfl l0 h
      replace h := eGetR (a := 181) (j := 1139) (g := 208) hS13 (by decide) (by decide) rfl rfl rfl (mi := 212) (pc := 255) (len := 3) rfl h
      replace h := eIload (mi := 212) (pc := 258) (len := 2) (i := 4) rfl l4 h
      obtain ⟨b14, h⟩ := eIald (x := kx) hS13 (a := 208) (by decide) (by decide) rfl (mi := 212) (pc := 260) (len := 1) rfl h
      replace h := eAdd (mi := 212) (pc := 261) (len := 1) rfl h
      obtain ⟨N16, eN16⟩ : ∃ X_, X_ = mPut N12 214 (((12 : Int32) * i) + kx).toInt.toNat (.int (((180 : Int32) * i) + (iv N12 208 kx.toInt.toNat))) := ⟨_, rfl⟩
      obtain ⟨b15, h⟩ := eIast (x := (((12 : Int32) * i) + kx)) (N := N16) hS13 (a := 214) (by decide) (by decide) eN16 (mi := 212) (pc := 262) (len := 1) rfl h
      have hS17 : Sh N16 := by rw [eN16]; exact hS13.put (by decide) (by decide) rfl
      replace h := eIinc (mi := 212) (pc := 263) (len := 3) (i := 4) (k := 1) rfl l4 (by decide) h
      replace h := eGoto (mi := 212) (pc := 266) (len := 3) (t := 160) rfl rfl h
      have ix : (((12 : Int32) * i) + kx).toInt.toNat = 12 * i.toInt.toNat + k := by rw [ix_mul (m := 12) 12 rfl (by decide) (by decide) i0 i2 (by omega) (by omega)]; omega
      have n211 : ∀ c x, (c ≠ 211 ∨ x ≠ 12 * i.toInt.toNat + k) → mSlot N4 c x = mSlot M c x := fun c x q => by rw [eN4, ix]; exact mSlot_put_ne q
      have n212 : ∀ c x, (c ≠ 212 ∨ x ≠ 12 * i.toInt.toNat + k) → mSlot N8 c x = mSlot N4 c x := fun c x q => by rw [eN8, ix]; exact mSlot_put_ne q
      have n213 : ∀ c x, (c ≠ 213 ∨ x ≠ 12 * i.toInt.toNat + k) → mSlot N12 c x = mSlot N8 c x := fun c x q => by rw [eN12, ix]; exact mSlot_put_ne q
      have n214 : ∀ c x, (c ≠ 214 ∨ x ≠ 12 * i.toInt.toNat + k) → mSlot N16 c x = mSlot N12 c x := fun c x q => by rw [eN16, ix]; exact mSlot_put_ne q
      have v211 : iv N4 211 (12 * i.toInt.toNat + k) = iv M0 205 k := by
        rw [eN4, ix, iv_put_eq hS (by decide) (by decide) (by show 12 * i.toInt.toNat + k < 36; omega), ekn]
        exact iv_sl (hc.2 205 k (Or.inl (by decide)))
      have o212 : iv N4 206 k = iv M0 206 k := iv_sl ((n211 206 k (Or.inl (by decide))).trans (hc.2 206 k (Or.inl (by decide))))
      have v212 : (iv N8 212 (12 * i.toInt.toNat + k)).toInt = 180 * (i.toInt.toNat : Int) + (iv M0 206 k).toInt := by
        rw [eN8, ix, iv_put_eq hS5 (by decide) (by decide) (by show 12 * i.toInt.toNat + k < 36; omega), ekn, o212, ix_mul (m := 180) 180 rfl (by decide) (by decide) i0 i2 (by omega) (by omega)]
        omega
      have o213 : iv N8 207 k = iv M0 207 k := iv_sl (((n212 207 k (Or.inl (by decide))).trans (n211 207 k (Or.inl (by decide)))).trans (hc.2 207 k (Or.inl (by decide))))
      have v213 : (iv N12 213 (12 * i.toInt.toNat + k)).toInt = 180 * (i.toInt.toNat : Int) + (iv M0 207 k).toInt := by
        rw [eN12, ix, iv_put_eq hS9 (by decide) (by decide) (by show 12 * i.toInt.toNat + k < 36; omega), ekn, o213, ix_mul (m := 180) 180 rfl (by decide) (by decide) i0 i2 (by omega) (by omega)]
        omega
      have o214 : iv N12 208 k = iv M0 208 k := iv_sl ((((n213 208 k (Or.inl (by decide))).trans (n212 208 k (Or.inl (by decide)))).trans (n211 208 k (Or.inl (by decide)))).trans (hc.2 208 k (Or.inl (by decide))))
      have v214 : (iv N16 214 (12 * i.toInt.toNat + k)).toInt = 180 * (i.toInt.toNat : Int) + (iv M0 208 k).toInt := by
        rw [eN16, ix, iv_put_eq hS13 (by decide) (by decide) (by show 12 * i.toInt.toNat + k < 36; omega), ekn, o214, ix_mul (m := 180) 180 rfl (by decide) (by decide) i0 i2 (by omega) (by omega)]
        omega
      have hc2 : CP2 M0 i.toInt.toNat (k + 1) N16 := by
        refine ⟨fun j hj => ?_, fun c x hx => ?_⟩
        · by_cases q : j = k
          · subst q
            exact ⟨(iv_sl (((n214 211 _ (Or.inl (by decide))).trans (n213 211 _ (Or.inl (by decide)))).trans (n212 211 _ (Or.inl (by decide))))).trans v211, by rw [iv_sl ((n214 212 _ (Or.inl (by decide))).trans (n213 212 _ (Or.inl (by decide))))]; exact v212, by rw [iv_sl (n214 213 _ (Or.inl (by decide)))]; exact v213, v214⟩
          · have w : ∀ c, iv N16 c (12 * i.toInt.toNat + j) = iv M c (12 * i.toInt.toNat + j) := fun c => iv_sl ((((n214 c _ (Or.inr (by omega))).trans (n213 c _ (Or.inr (by omega)))).trans (n212 c _ (Or.inr (by omega)))).trans (n211 c _ (Or.inr (by omega))))
            rw [w, w, w, w]
            exact hc.1 j (by omega)
        · rw [n214 c x (by omega), n213 c x (by omega), n212 c x (by omega), n211 c x (by omega)]
          exact hc.2 c x (by omega)
      exact ih _ _ _ (k + 1) (mLd_st1_ref (by decide) l0) (mLd_st1_int (by decide) l1) mLd_st1_i (by show (kx + (1 : Int32)).toInt = ((k + 1 : Nat) : Int); rw [ic1 ek (by omega) (by omega)]; rfl) hS17 hc2 (by omega) h
/-- what the reference keeps of a law: as many clauses, their codes and places -/
def RLK (M0 M1 : Mem) (i : Nat) : Prop := iv M1 210 i = iv M0 181 32 ∧ (∀ j, j ≠ i → iv M1 210 j = iv M0 210 j) ∧ (∀ k : Nat, (k : Int) < (iv M0 181 30).toInt → iv M1 209 (180 * i + k) = iv M0 203 k) ∧ (∀ x, (x < 180 * i ∨ 180 * i + 180 ≤ x) → iv M1 209 x = iv M0 209 x) ∧ (∀ j : Nat, (j : Int) < (iv M0 181 32).toInt → iv M1 211 (12 * i + j) = iv M0 205 j ∧ (iv M1 212 (12 * i + j)).toInt = 180 * (i : Int) + (iv M0 206 j).toInt ∧ (iv M1 213 (12 * i + j)).toInt = 180 * (i : Int) + (iv M0 207 j).toInt ∧ (iv M1 214 (12 * i + j)).toInt = 180 * (i : Int) + (iv M0 208 j).toInt) ∧ ∀ x, (x < 12 * i ∨ 12 * i + 12 ≤ x) → iv M1 211 x = iv M0 211 x ∧ iv M1 212 x = iv M0 212 x ∧ iv M1 213 x = iv M0 213 x ∧ iv M1 214 x = iv M0 214 x
theorem law_95f {n d : Nat} {L : MLoc} {M : Mem} {r : Option Value} {M1 : Mem} (l0 : mLd L 0 = some (.ref 181)) (l3 : mLd L 3 = some (.int 0)) (hS : Sh M) (h : En n d 212 95 L [] M r M1) : Sh M1 ∧ r = some (.int (iv M 181 28)) ∧ RZ M M1 ∧ (iv M1 181 25).toInt = 0 ∧ ∀ c j, 208 < c → mSlot M1 c j = mSlot M c j := by
  replace h := eAload (mi := 212) (pc := 95) (len := 1) (i := 0) rfl l0 h
  replace h := eConst (mi := 212) (pc := 96) (len := 1) (v := 0) rfl h
  obtain ⟨N1, eN1⟩ : ∃ X_, X_ = mPut M 181 25 (.int (0 : Int32)) := ⟨_, rfl⟩
  replace h := ePutE (a := 181) (f := 25) (N := N1) rfl eN1 (mi := 212) (pc := 97) (len := 3) (j := 1125) rfl h
  have hS2 : Sh N1 := by rw [eN1]; exact hS.put (by decide) (by decide) rfl
  replace h := eIload (mi := 212) (pc := 100) (len := 1) (i := 3) rfl l3 h
  rcases eIf (mi := 212) (pc := 101) (len := 3) (t := 109) rfl rfl h with ⟨c3, h⟩ | ⟨c3, h⟩
  · exact absurd c3 (by decide)
  · skip
    replace h := eAload (mi := 212) (pc := 104) (len := 1) (i := 0) rfl l0 h
    replace h := eGetI (a := 181) (j := 1128) hS2 (by decide) (by decide) rfl (mi := 212) (pc := 105) (len := 3) rfl h
    obtain ⟨e1, e2⟩ := eRetI (mi := 212) (pc := 108) (len := 1) rfl h
    have nf : iv N1 181 28 = iv M 181 28 := by rw [eN1]; exact iv_put_ne (Or.inr (by decide))
    rw [e1, e2, nf]
    exact ⟨hS2, rfl, by rw [eN1]; exact RZ.put (by decide), by rw [eN1, iv_put_eq hS (by decide) (by decide) (by decide)]; rfl, fun c j hc => by rw [eN1]; exact mSlot_put_ne (Or.inl (by omega))⟩
theorem law_95 {i : Int32} {n d : Nat} {L : MLoc} {M : Mem} {r : Option Value} {M1 : Mem} (i0 : 0 ≤ i.toInt) (i2 : i.toInt ≤ 2) (cb : 0 ≤ (iv M 181 30).toInt ∧ (iv M 181 30).toInt ≤ 180) (cs : 0 ≤ (iv M 181 32).toInt ∧ (iv M 181 32).toInt ≤ 12) (sb : ∀ j : Nat, (j : Int) < (iv M 181 32).toInt → (0 ≤ (iv M 206 j).toInt ∧ (iv M 206 j).toInt ≤ 180) ∧ (0 ≤ (iv M 207 j).toInt ∧ (iv M 207 j).toInt ≤ 180) ∧ 0 ≤ (iv M 208 j).toInt ∧ (iv M 208 j).toInt ≤ 180) (l0 : mLd L 0 = some (.ref 181)) (l1 : mLd L 1 = some (.int i)) (l3 : mLd L 3 = some (.int 1)) (hS : Sh M) (h : En n d 212 95 L [] M r M1) : Sh M1 ∧ r = some (.int (iv M 181 32)) ∧ RZ M M1 ∧ (iv M1 181 25).toInt = 0 ∧ RLK M M1 i.toInt.toNat := by
  replace h := eAload (mi := 212) (pc := 95) (len := 1) (i := 0) rfl l0 h
  replace h := eConst (mi := 212) (pc := 96) (len := 1) (v := 0) rfl h
  obtain ⟨N1, eN1⟩ : ∃ X_, X_ = mPut M 181 25 (.int (0 : Int32)) := ⟨_, rfl⟩
  replace h := ePutE (a := 181) (f := 25) (N := N1) rfl eN1 (mi := 212) (pc := 97) (len := 3) (j := 1125) rfl h
  have hS2 : Sh N1 := by rw [eN1]; exact hS.put (by decide) (by decide) rfl
  replace h := eIload (mi := 212) (pc := 100) (len := 1) (i := 3) rfl l3 h
  rcases eIf (mi := 212) (pc := 101) (len := 3) (t := 109) rfl rfl h with ⟨c3, h⟩ | ⟨c3, h⟩
  · skip
    replace h := eAload (mi := 212) (pc := 109) (len := 1) (i := 0) rfl l0 h
    replace h := eGetR (a := 181) (j := 1141) (g := 210) hS2 (by decide) (by decide) rfl rfl rfl (mi := 212) (pc := 110) (len := 3) rfl h
    replace h := eIload (mi := 212) (pc := 113) (len := 1) (i := 1) rfl l1 h
    replace h := eAload (mi := 212) (pc := 114) (len := 1) (i := 0) rfl l0 h
    replace h := eGetI (a := 181) (j := 1132) hS2 (by decide) (by decide) rfl (mi := 212) (pc := 115) (len := 3) rfl h
    obtain ⟨N5, eN5⟩ : ∃ X_, X_ = mPut N1 210 i.toInt.toNat (.int (iv N1 181 32)) := ⟨_, rfl⟩
    obtain ⟨b4, h⟩ := eIast (x := i) (N := N5) hS2 (a := 210) (by decide) (by decide) eN5 (mi := 212) (pc := 118) (len := 1) rfl h
    have hS6 : Sh N5 := by rw [eN5]; exact hS2.put (by decide) (by decide) rfl
    replace h := eConst (mi := 212) (pc := 119) (len := 1) (v := 0) rfl h
    replace h := eIstore (mi := 212) (pc := 120) (len := 2) (i := 4) rfl (by decide) h
    have ei : i.toInt.toNat = i.toInt.toNat := rfl
    have f1 : ∀ c x, (c ≠ 181 ∨ x ≠ 25) → mSlot N1 c x = mSlot M c x := fun c x q => by rw [eN1]; exact mSlot_put_ne q
    have f2 : ∀ c x, (c ≠ 210 ∨ x ≠ i.toInt.toNat) → mSlot N5 c x = mSlot N1 c x := fun c x q => by rw [eN5]; exact mSlot_put_ne q
    have f12 : ∀ c x, c ≠ 210 → (c ≠ 181 ∨ x ≠ 25) → mSlot N5 c x = mSlot M c x := fun c x a b => (f2 c x (Or.inl a)).trans (f1 c x b)
    have g30 : iv N5 181 30 = iv M 181 30 := iv_sl (f12 181 30 (by decide) (Or.inr (by decide)))
    have g32 : iv N5 181 32 = iv M 181 32 := iv_sl (f12 181 32 (by decide) (Or.inr (by decide)))
    obtain ⟨n3, L3, M3, a0, a1, S3, hc3, h⟩ := lcp_lp (M0 := N5) i0 i2 (by rw [g30]; exact cb.1) (by rw [g30]; exact cb.2) _ _ _ _ 0 (mLd_st1_ref (by decide) l0) (mLd_st1_int (by decide) l1) mLd_st1_i rfl hS6 ⟨fun j hj => absurd hj (Nat.not_lt_zero j), fun _ _ _ => rfl⟩ (by rw [g30]; exact cb.1) h
    rw [g30] at hc3
    replace h := eConst (mi := 212) (pc := 157) (len := 1) (v := 0) rfl h
    replace h := eIstore (mi := 212) (pc := 158) (len := 2) (i := 4) rfl (by decide) h
    have f3 : ∀ c x, c ≠ 209 → mSlot M3 c x = mSlot N5 c x := fun c x q => hc3.2 c x (Or.inl q)
    have h32 : iv M3 181 32 = iv M 181 32 := (iv_sl (f3 181 32 (by decide))).trans g32
    have f123 : ∀ c x, c ≠ 209 → c ≠ 210 → (c ≠ 181 ∨ x ≠ 25) → mSlot M3 c x = mSlot M c x := fun c x a b e => (f3 c x a).trans (f12 c x b e)
    have i206 : ∀ j, iv M3 206 j = iv M 206 j := fun j => iv_sl (f123 206 j (by decide) (by decide) (Or.inl (by decide)))
    have i207 : ∀ j, iv M3 207 j = iv M 207 j := fun j => iv_sl (f123 207 j (by decide) (by decide) (Or.inl (by decide)))
    have i208 : ∀ j, iv M3 208 j = iv M 208 j := fun j => iv_sl (f123 208 j (by decide) (by decide) (Or.inl (by decide)))
    have i205 : ∀ j, iv M3 205 j = iv M 205 j := fun j => iv_sl (f123 205 j (by decide) (by decide) (Or.inl (by decide)))
    obtain ⟨n4, L4, M4, b0, b1, S4, hc4, h⟩ := lcq_lp (M0 := M3) i0 i2 (by rw [h32]; exact cs.1) (by rw [h32]; exact cs.2) (fun j hj => by rw [h32] at hj; rw [i206, i207, i208]; exact sb j hj) _ _ _ _ 0 (mLd_st1_ref (by decide) a0) (mLd_st1_int (by decide) a1) mLd_st1_i rfl S3 ⟨fun j hj => absurd hj (Nat.not_lt_zero j), fun _ _ _ => rfl⟩ (by rw [h32]; exact cs.1) h
    rw [h32] at hc4
    replace h := eAload (mi := 212) (pc := 269) (len := 1) (i := 0) rfl b0 h
    replace h := eGetI (a := 181) (j := 1132) S4 (by decide) (by decide) rfl (mi := 212) (pc := 270) (len := 3) rfl h
    obtain ⟨e1, e2⟩ := eRetI (mi := 212) (pc := 273) (len := 1) rfl h
    have f4 : ∀ c x, (c < 211 ∨ 214 < c) → mSlot M4 c x = mSlot M3 c x := fun c x q => hc4.2 c x (Or.inl q)
    have i4 : iv M4 181 32 = iv M 181 32 := (iv_sl (f4 181 32 (Or.inl (by decide)))).trans h32
    rw [e1, e2, i4]
    refine ⟨S4, rfl, ?_, ?_, ?_, ?_, ?_, ?_, ?_, ?_⟩
    · intro c x q1 q2
      rw [f4 c x (by omega), f3 c x (by omega), f2 c x (Or.inl (by omega)), f1 c x (by by_cases q : c = 181; exact Or.inr (by have := q1 q; omega); exact Or.inl q)]
    · rw [iv_sl (f4 181 25 (Or.inl (by decide))), iv_sl (f3 181 25 (by decide)), iv_sl (f2 181 25 (Or.inl (by decide))), eN1, iv_put_eq hS (by decide) (by decide) (by decide)]
      rfl
    · rw [iv_sl (f4 210 _ (Or.inl (by decide))), iv_sl (f3 210 _ (by decide)), eN5, iv_put_eq hS2 (by decide) (by decide) (by show i.toInt.toNat < 3; omega)]
      exact iv_sl (f1 181 32 (Or.inr (by decide)))
    · exact fun j hj => iv_sl ((((f4 210 j (Or.inl (by decide))).trans (f3 210 j (by decide))).trans (f2 210 j (Or.inr hj))).trans (f1 210 j (Or.inl (by decide))))
    · intro k hk
      rw [iv_sl (f4 209 _ (Or.inl (by decide))), hc3.1 k (by omega)]
      exact iv_sl (f12 203 k (by decide) (Or.inl (by decide)))
    · intro x hx
      exact iv_sl (((f4 209 x (Or.inl (by decide))).trans (hc3.2 209 x (Or.inr (by have := cb.2; omega)))).trans (f12 209 x (by decide) (Or.inl (by decide))))
    · intro j hj
      have q := hc4.1 j (by omega)
      rw [i205, i206, i207, i208] at q
      exact q
    · intro x hx
      have w : ∀ c, 211 ≤ c → c ≤ 214 → iv M4 c x = iv M c x := fun c c1 c2 => iv_sl ((hc4.2 c x (Or.inr (by have := cs.2; omega))).trans (f123 c x (by omega) (by omega) (Or.inl (by omega))))
      exact ⟨w 211 (by decide) (by decide), w 212 (by decide) (by decide), w 213 (by decide) (by decide), w 214 (by decide) (by decide)⟩
  · exact absurd c3 (by decide)

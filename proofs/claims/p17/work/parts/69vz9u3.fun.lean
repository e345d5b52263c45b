/-! programs: what a run is held against (printed by fn28.py) -/
theorem and_m20 (x : Int32) : (x &&& Int32.ofInt 1048575).toInt = x.toInt % 1048576 := by
  show (x &&& (1048575 : Int32)).toInt = _
  have e : (x &&& (1048575 : Int32)).toBitVec.toNat = x.toBitVec.toNat &&& 1048575 := BitVec.toNat_and ..
  have q : x.toBitVec.toNat &&& 1048575 = x.toBitVec.toNat % 1048576 := Nat.and_two_pow_sub_one_eq_mod x.toBitVec.toNat 20
  have b := bv_back (x := x &&& (1048575 : Int32)) (by omega)
  have t := tb_int x
  omega
theorem shr_20 (x : Int32) : (x >>> (Int32.ofInt 20 &&& 31)).toInt = x.toInt / 1048576 := shr_n (k := 20) rfl
theorem clF_rg {a : Int} : 0 ≤ clF a ∧ clF a < 26 := by
  unfold clF
  by_cases d0 : a = 0
  · rw [if_pos d0]
    omega
  by_cases d1 : a = 1
  · rw [if_neg d0, if_pos d1]
    omega
  by_cases d2 : a = 2
  · rw [if_neg d0, if_neg d1, if_pos d2]
    omega
  by_cases d3 : a = 3
  · rw [if_neg d0, if_neg d1, if_neg d2, if_pos d3]
    omega
  by_cases d4 : a = 4
  · rw [if_neg d0, if_neg d1, if_neg d2, if_neg d3, if_pos d4]
    omega
  by_cases d5 : a = 5
  · rw [if_neg d0, if_neg d1, if_neg d2, if_neg d3, if_neg d4, if_pos d5]
    omega
  by_cases d6 : a = 6
  · rw [if_neg d0, if_neg d1, if_neg d2, if_neg d3, if_neg d4, if_neg d5, if_pos d6]
    omega
  by_cases d7 : a = 7
  · rw [if_neg d0, if_neg d1, if_neg d2, if_neg d3, if_neg d4, if_neg d5, if_neg d6, if_pos d7]
    omega
  by_cases d8 : a = 8
  · rw [if_neg d0, if_neg d1, if_neg d2, if_neg d3, if_neg d4, if_neg d5, if_neg d6, if_neg d7, if_pos d8]
    omega
  by_cases d9 : a = 9
  · rw [if_neg d0, if_neg d1, if_neg d2, if_neg d3, if_neg d4, if_neg d5, if_neg d6, if_neg d7, if_neg d8, if_pos d9]
    omega
  by_cases d10 : a = 10
  · rw [if_neg d0, if_neg d1, if_neg d2, if_neg d3, if_neg d4, if_neg d5, if_neg d6, if_neg d7, if_neg d8, if_neg d9, if_pos d10]
    omega
  by_cases d11 : a = 11
  · rw [if_neg d0, if_neg d1, if_neg d2, if_neg d3, if_neg d4, if_neg d5, if_neg d6, if_neg d7, if_neg d8, if_neg d9, if_neg d10, if_pos d11]
    omega
  by_cases d12 : a = 12
  · rw [if_neg d0, if_neg d1, if_neg d2, if_neg d3, if_neg d4, if_neg d5, if_neg d6, if_neg d7, if_neg d8, if_neg d9, if_neg d10, if_neg d11, if_pos d12]
    omega
  rw [if_neg d0, if_neg d1, if_neg d2, if_neg d3, if_neg d4, if_neg d5, if_neg d6, if_neg d7, if_neg d8, if_neg d9, if_neg d10, if_neg d11, if_neg d12]
  omega
def encA (sh v : Int) : Int := if cOp v = 1 then clF (cAr v) else if cOp v = 11 ∨ cOp v = 12 then (if cAr v = 0 then 0 else cAr v + sh) else cAr v
theorem enc_rd {w : Int32} {sh v : Int} (h : w.toInt = encC sh v) (h0 : 0 ≤ encA sh v) (h1 : encA sh v < 1048576) : (w >>> (Int32.ofInt 20 &&& 31)).toInt = sgC (cOp v) ∧ (w &&& Int32.ofInt 1048575).toInt = encA sh v := by
  have h : w.toInt = sgC (cOp v) * 1048576 + encA sh v := h
  rw [shr_20, and_m20, h]
  omega
/-- how high the class's stack stands, what stands there -/
def HT (A K : Nat) (M : Mem) (m : Nat) (s : Nat → Int32) : Prop := (iv M A 7).toInt = (m : Int) ∧ ∀ k, k < m → iv M K k = s k
theorem HT.cg {A K : Nat} {M : Mem} {m : Nat} {s s' : Nat → Int32} (h : HT A K M m s) (e : ∀ k, k < m → s' k = s k) : HT A K M m s' := ⟨h.1, fun k hk => (h.2 k hk).trans (e k hk).symm⟩
def FrA (A K : Nat) (M N : Mem) : Prop := ∀ c i, ¬ (c = A ∧ i = 7) → c ≠ K → mSlot N c i = mSlot M c i
theorem FrA.rf {A K : Nat} {M : Mem} : FrA A K M M := fun _ _ _ _ => rfl
theorem FrA.tr {A K : Nat} {M N O : Mem} (h : FrA A K M N) (h' : FrA A K N O) : FrA A K M O := fun c i a b => (h' c i a b).trans (h c i a b)
theorem FrA.si {A K c i : Nat} {M N : Mem} (h : FrA A K M N) (a : ¬ (c = A ∧ i = 7)) (b : c ≠ K) : iv N c i = iv M c i := by unfold iv; rw [h c i a b]
/-- a program as the class keeps it, and the facts -/
def RS (A S : Nat) (F : Nat → Int) (fc : Nat → Int32) (b0 C : Nat) (sh : Int) (M : Mem) : Prop := ((∀ i, b0 ≤ i → i < C → (iv M S ((i : Int) + sh).toNat).toInt = encC sh (F i)) ∧ (iv M S ((C : Int) + sh).toNat).toInt = 61865984 ∧ (C : Int) + sh < (iv M A 1).toInt ∧ 0 ≤ sh ∧ (C : Int) + sh ≤ 1000) ∧ ∀ v : Nat, v < 14 → iv M 172 (clF (v : Int)).toNat = fc v
theorem RS.fr {A S K : Nat} {F : Nat → Int} {fc : Nat → Int32} {b0 C : Nat} {sh : Int} {M N : Mem} (h : RS A S F fc b0 C sh M) (f : FrA A K M N) (hA : S ≠ A ∧ S ≠ K ∧ A ≠ K ∧ 172 ≠ A ∧ 172 ≠ K) : RS A S F fc b0 C sh N := by
  obtain ⟨⟨h1, h2, h3, h4, h5⟩, h6⟩ := h
  refine ⟨⟨fun i a b => ?_, ?_, ?_, h4, h5⟩, fun v hv => ?_⟩
  · rw [f.si (fun q => hA.1 q.1) hA.2.1]; exact h1 i a b
  · rw [f.si (fun q => hA.1 q.1) hA.2.1]; exact h2
  · rw [f.si (fun q => by omega) hA.2.2.1]; exact h3
  · rw [f.si (fun q => hA.2.2.2.1 q.1) hA.2.2.2.2]; exact h6 v hv
/-- numbers and truth values -/
def TI (ty : Nat → Int) (i m : Nat) (s : Nat → Int32) : Prop := (m : Int) = (if ty i = -1 then 1 else ty i) ∧ (ty i = -1 → s 0 = 0 ∨ s 0 = 1)
theorem TI.pos {ty : Nat → Int} {i m : Nat} {s : Nat → Int32} (h : TI ty i m s) (h0 : 0 ≤ ty i) : (m : Int) = ty i := by
  have h := h.1
  rw [if_neg (by omega)] at h
  exact h
theorem TI.one {ty : Nat → Int} {i m : Nat} {s : Nat → Int32} (h : TI ty i m s) (h0 : ty i = -1) : m = 1 ∧ (s 0 = 0 ∨ s 0 = 1) := by
  have q := h.1
  rw [if_pos h0] at q
  exact ⟨by omega, h.2 h0⟩
theorem TI.mk {ty : Nat → Int} {i m : Nat} {s : Nat → Int32} (h0 : 0 ≤ ty i) (h : (m : Int) = ty i) : TI ty i m s := ⟨by rw [if_neg (by omega)]; exact h, fun q => by omega⟩
theorem TI.mk1 {ty : Nat → Int} {i : Nat} {s : Nat → Int32} (h0 : ty i = -1) (h : s 0 = 0 ∨ s 0 = 1) : TI ty i 1 s := ⟨by rw [if_pos h0]; rfl, fun _ => h⟩
theorem rkO_01 {op : Int} {x y : Int32} (h : 7 ≤ op ∧ op ≤ 9) : rkO op x y = 0 ∨ rkO op x y = 1 := by
  unfold rkO
  rw [if_neg (by omega), if_neg (by omega), if_neg (by omega), if_neg (by omega), if_neg (by omega)]
  repeat' split
  all_goals first | exact Or.inr rfl | exact Or.inl rfl
theorem not_01 {x : Int32} (h : x = 0 ∨ x = 1) : 1 - x = 0 ∨ 1 - x = 1 := by
  rcases h with rfl | rfl
  · exact Or.inr rfl
  · exact Or.inl rfl
theorem i01 {x : Int32} (h : x = 0 ∨ x = 1) : x.toInt = 0 ∨ x.toInt = 1 := by
  rcases h with rfl | rfl
  · exact Or.inl rfl
  · exact Or.inr rfl
section
variable {n d mi pc len : Nat} {L : MLoc} {st : List Value} {M : Mem} {r : Option Value} {M1 : Mem}
theorem eLsw {t : Nat} {d0 o : Int} {ps : Array (Int × Int)} {x : Int32} (hat : mAt mi pc = some (len, .lookupswitch d0 ps)) (ho : Op.lookupswitch.offset ps.toList d0 x.toInt = o) (hj : mJmp pc o = some t) (h : En n d mi pc L (.int x :: st) M r M1) : En n d mi t L st M r M1 :=
  En.pl hat (by unfold mStep; dsimp only; rw [ho, hj]) h
end
/-- a jump: where it lands -/
theorem mx_jump {x3 x5 : Int32} {a b : Int} (h3 : x3.toInt = a) (h5 : x5.toInt = b) (h0 : 0 ≤ a) (h : a < b) (h1 : b ≤ 1000) : ((if x3 < (x5 - (1 : Int32)) then (x5 - (1 : Int32)) else x3) + 1).toInt = b := by
  have e := dc1 h5 (by omega) (by omega)
  by_cases c : x3 < (x5 - (1 : Int32))
  · rw [if_pos c]
    exact (ic1 e (by omega) (by omega)).trans (by omega)
  · rw [if_neg c]
    have c := mt Int32.lt_iff_toInt_lt.mpr c
    exact (ic1 h3 (by omega) (by omega)).trans (by omega)
/-- back at the loop's head -/
def RN (A K n d : Nat) (M : Mem) (r : Option Value) (M1 : Mem) (y : Int) (m : Nat) (s : Nat → Int32) : Prop := ∃ (L' : MLoc) (N' : Mem) (x : Int32), (mLd L' 0 = some (.ref A) ∧ mLd L' 2 = some (.ref 172) ∧ mLd L' 3 = some (.int x) ∧ x.toInt = y) ∧ Sh N' ∧ HT A K N' m s ∧ FrA A K M N' ∧ En n d 66 7 L' [] N' r M1
theorem i0_of {x : Int32} (h : x.toInt = 0) : x = 0 := Int32.toInt_inj.mp h
theorem rkC_en {c x y : Int32} {op : Int} {n d : Nat} {M : Mem} {r : Option Value} {M1 : Mem} (ho : 2 ≤ op ∧ op ≤ 9) (hc : c.toInt = sgC op) (hy : op = 5 ∨ op = 6 → ¬ y = 0) (h : En n d 67 0 (lv_args 0 [.int c, .int x, .int y]) [] M r M1) : r = some (.int (rkO op x y)) ∧ M1 = M := by
  replace h := eIload (mi := 67) (pc := 0) (len := 1) (i := 0) rfl rfl h
  rcases (show op = 2 ∨ op = 3 ∨ op = 4 ∨ op = 5 ∨ op = 6 ∨ op = 7 ∨ op = 8 ∨ op = 9 by omega) with q | q | q | q | q | q | q | q
  · subst q
    have hc : c.toInt = 43 := hc
    replace h := eLsw (o := 67) (t := 68) (mi := 67) (pc := 1) (len := 67) rfl (by rw [hc]; rfl) rfl h
    replace h := eIload (mi := 67) (pc := 68) (len := 1) (i := 1) rfl rfl h
    replace h := eIload (mi := 67) (pc := 69) (len := 1) (i := 2) rfl rfl h
    replace h := eAdd (mi := 67) (pc := 70) (len := 1) rfl h
    obtain ⟨e1, e2⟩ := eRetI (mi := 67) (pc := 71) (len := 1) rfl h
    have e3 : rkO 2 x y = (x + y) := by unfold rkO; rw [if_pos rfl]
    rw [e3]
    exact ⟨e1, e2⟩
  · subst q
    have hc : c.toInt = 45 := hc
    replace h := eLsw (o := 71) (t := 72) (mi := 67) (pc := 1) (len := 67) rfl (by rw [hc]; rfl) rfl h
    replace h := eIload (mi := 67) (pc := 72) (len := 1) (i := 1) rfl rfl h
    replace h := eIload (mi := 67) (pc := 73) (len := 1) (i := 2) rfl rfl h
    replace h := eSub (mi := 67) (pc := 74) (len := 1) rfl h
    obtain ⟨e1, e2⟩ := eRetI (mi := 67) (pc := 75) (len := 1) rfl h
    have e3 : rkO 3 x y = (x - y) := by unfold rkO; rw [if_neg (by decide), if_pos rfl]
    rw [e3]
    exact ⟨e1, e2⟩
  · subst q
    have hc : c.toInt = 42 := hc
    replace h := eLsw (o := 75) (t := 76) (mi := 67) (pc := 1) (len := 67) rfl (by rw [hc]; rfl) rfl h
    replace h := eIload (mi := 67) (pc := 76) (len := 1) (i := 1) rfl rfl h
    replace h := eIload (mi := 67) (pc := 77) (len := 1) (i := 2) rfl rfl h
    replace h := eMul (mi := 67) (pc := 78) (len := 1) rfl h
    obtain ⟨e1, e2⟩ := eRetI (mi := 67) (pc := 79) (len := 1) rfl h
    have e3 : rkO 4 x y = (x * y) := by unfold rkO; rw [if_neg (by decide), if_neg (by decide), if_pos rfl]
    rw [e3]
    exact ⟨e1, e2⟩
  · subst q
    have hc : c.toInt = 47 := hc
    replace h := eLsw (o := 79) (t := 80) (mi := 67) (pc := 1) (len := 67) rfl (by rw [hc]; rfl) rfl h
    replace h := eIload (mi := 67) (pc := 80) (len := 1) (i := 2) rfl rfl h
    rcases eIf (mi := 67) (pc := 81) (len := 3) (t := 88) rfl rfl h with ⟨c1, h⟩ | ⟨c1, h⟩
    · replace c1 : ¬ y.toInt = 0 := mC_ne.1 c1
      replace h := eIload (mi := 67) (pc := 88) (len := 1) (i := 1) rfl rfl h
      replace h := eIload (mi := 67) (pc := 89) (len := 1) (i := 2) rfl rfl h
      replace h := eDiv (mi := 67) (pc := 90) (len := 1) rfl (hy (Or.inl rfl)) h
      obtain ⟨e1, e2⟩ := eRetI (mi := 67) (pc := 91) (len := 1) rfl h
      have e3 : rkO 5 x y = (x / y) := by unfold rkO; rw [if_neg (by decide), if_neg (by decide), if_neg (by decide), if_pos rfl]
      rw [e3]
      exact ⟨e1, e2⟩
    · replace c1 : y.toInt = 0 := mC_ne.2 c1
      replace h := eConst (mi := 67) (pc := 84) (len := 1) (v := 0) rfl h
      replace h := eGoto (mi := 67) (pc := 85) (len := 3) (t := 91) rfl rfl h
      exact absurd (i0_of c1) (hy (Or.inl rfl))
  · subst q
    have hc : c.toInt = 37 := hc
    replace h := eLsw (o := 91) (t := 92) (mi := 67) (pc := 1) (len := 67) rfl (by rw [hc]; rfl) rfl h
    replace h := eIload (mi := 67) (pc := 92) (len := 1) (i := 2) rfl rfl h
    rcases eIf (mi := 67) (pc := 93) (len := 3) (t := 100) rfl rfl h with ⟨c1, h⟩ | ⟨c1, h⟩
    · replace c1 : ¬ y.toInt = 0 := mC_ne.1 c1
      replace h := eIload (mi := 67) (pc := 100) (len := 1) (i := 1) rfl rfl h
      replace h := eIload (mi := 67) (pc := 101) (len := 1) (i := 2) rfl rfl h
      replace h := eRem (mi := 67) (pc := 102) (len := 1) rfl (hy (Or.inr rfl)) h
      obtain ⟨e1, e2⟩ := eRetI (mi := 67) (pc := 103) (len := 1) rfl h
      have e3 : rkO 6 x y = (x - x / y * y) := by unfold rkO; rw [if_neg (by decide), if_neg (by decide), if_neg (by decide), if_neg (by decide), if_pos rfl]
      rw [e3]
      exact ⟨e1, e2⟩
    · replace c1 : y.toInt = 0 := mC_ne.2 c1
      replace h := eConst (mi := 67) (pc := 96) (len := 1) (v := 0) rfl h
      replace h := eGoto (mi := 67) (pc := 97) (len := 3) (t := 103) rfl rfl h
      exact absurd (i0_of c1) (hy (Or.inr rfl))
  · subst q
    have hc : c.toInt = 60 := hc
    replace h := eLsw (o := 103) (t := 104) (mi := 67) (pc := 1) (len := 67) rfl (by rw [hc]; rfl) rfl h
    replace h := eIload (mi := 67) (pc := 104) (len := 1) (i := 1) rfl rfl h
    replace h := eIload (mi := 67) (pc := 105) (len := 1) (i := 2) rfl rfl h
    rcases eIc (mi := 67) (pc := 106) (len := 3) (t := 113) rfl rfl h with ⟨c1, h⟩ | ⟨c1, h⟩
    · replace c1 : ¬ x.toInt < y.toInt := mC_ge.1 c1
      replace h := eConst (mi := 67) (pc := 113) (len := 1) (v := 0) rfl h
      obtain ⟨e1, e2⟩ := eRetI (mi := 67) (pc := 114) (len := 1) rfl h
      have e3 : rkO 7 x y = (0 : Int32) := by unfold rkO; rw [if_neg (by decide), if_neg (by decide), if_neg (by decide), if_neg (by decide), if_neg (by decide), if_pos rfl, if_neg c1]
      rw [e3]
      exact ⟨e1, e2⟩
    · replace c1 : x.toInt < y.toInt := mC_ge.2 c1
      replace h := eConst (mi := 67) (pc := 109) (len := 1) (v := 1) rfl h
      replace h := eGoto (mi := 67) (pc := 110) (len := 3) (t := 114) rfl rfl h
      obtain ⟨e1, e2⟩ := eRetI (mi := 67) (pc := 114) (len := 1) rfl h
      have e3 : rkO 7 x y = (1 : Int32) := by unfold rkO; rw [if_neg (by decide), if_neg (by decide), if_neg (by decide), if_neg (by decide), if_neg (by decide), if_pos rfl, if_pos c1]
      rw [e3]
      exact ⟨e1, e2⟩
  · subst q
    have hc : c.toInt = 62 := hc
    replace h := eLsw (o := 114) (t := 115) (mi := 67) (pc := 1) (len := 67) rfl (by rw [hc]; rfl) rfl h
    replace h := eIload (mi := 67) (pc := 115) (len := 1) (i := 1) rfl rfl h
    replace h := eIload (mi := 67) (pc := 116) (len := 1) (i := 2) rfl rfl h
    rcases eIc (mi := 67) (pc := 117) (len := 3) (t := 124) rfl rfl h with ⟨c1, h⟩ | ⟨c1, h⟩
    · replace c1 : ¬ y.toInt < x.toInt := mC_le.1 c1
      replace h := eConst (mi := 67) (pc := 124) (len := 1) (v := 0) rfl h
      obtain ⟨e1, e2⟩ := eRetI (mi := 67) (pc := 125) (len := 1) rfl h
      have e3 : rkO 8 x y = (0 : Int32) := by unfold rkO; rw [if_neg (by decide), if_neg (by decide), if_neg (by decide), if_neg (by decide), if_neg (by decide), if_neg (by decide), if_pos rfl, if_neg c1]
      rw [e3]
      exact ⟨e1, e2⟩
    · replace c1 : y.toInt < x.toInt := mC_le.2 c1
      replace h := eConst (mi := 67) (pc := 120) (len := 1) (v := 1) rfl h
      replace h := eGoto (mi := 67) (pc := 121) (len := 3) (t := 125) rfl rfl h
      obtain ⟨e1, e2⟩ := eRetI (mi := 67) (pc := 125) (len := 1) rfl h
      have e3 : rkO 8 x y = (1 : Int32) := by unfold rkO; rw [if_neg (by decide), if_neg (by decide), if_neg (by decide), if_neg (by decide), if_neg (by decide), if_neg (by decide), if_pos rfl, if_pos c1]
      rw [e3]
      exact ⟨e1, e2⟩
  · subst q
    have hc : c.toInt = 61 := hc
    replace h := eLsw (o := 125) (t := 126) (mi := 67) (pc := 1) (len := 67) rfl (by rw [hc]; rfl) rfl h
    replace h := eIload (mi := 67) (pc := 126) (len := 1) (i := 1) rfl rfl h
    replace h := eIload (mi := 67) (pc := 127) (len := 1) (i := 2) rfl rfl h
    rcases eIc (mi := 67) (pc := 128) (len := 3) (t := 135) rfl rfl h with ⟨c1, h⟩ | ⟨c1, h⟩
    · replace c1 : ¬ x.toInt = y.toInt := mC_ne.1 c1
      replace h := eConst (mi := 67) (pc := 135) (len := 1) (v := 0) rfl h
      obtain ⟨e1, e2⟩ := eRetI (mi := 67) (pc := 136) (len := 1) rfl h
      have e3 : rkO 9 x y = (0 : Int32) := by unfold rkO; rw [if_neg (by decide), if_neg (by decide), if_neg (by decide), if_neg (by decide), if_neg (by decide), if_neg (by decide), if_neg (by decide), if_neg c1]
      rw [e3]
      exact ⟨e1, e2⟩
    · replace c1 : x.toInt = y.toInt := mC_ne.2 c1
      replace h := eConst (mi := 67) (pc := 131) (len := 1) (v := 1) rfl h
      replace h := eGoto (mi := 67) (pc := 132) (len := 3) (t := 136) rfl rfl h
      obtain ⟨e1, e2⟩ := eRetI (mi := 67) (pc := 136) (len := 1) rfl h
      have e3 : rkO 9 x y = (1 : Int32) := by unfold rkO; rw [if_neg (by decide), if_neg (by decide), if_neg (by decide), if_neg (by decide), if_neg (by decide), if_neg (by decide), if_neg (by decide), if_pos c1]
      rw [e3]
      exact ⟨e1, e2⟩

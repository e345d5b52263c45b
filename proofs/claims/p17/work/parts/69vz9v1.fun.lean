/-! a chain is walked: the class (printed by fn36.py) -/
/-- what looking for the best leaves as it is -/
def qIn (c i : Nat) : Prop := qOv c i ∧ ¬ (c = 170 ∧ i = 15)
def FzI (M N : Mem) : Prop := ∀ c i, qIn c i → mSlot N c i = mSlot M c i
theorem FzI.rf {M : Mem} : FzI M M := fun _ _ _ => rfl
theorem FzI.tr {A B C : Mem} (h : FzI A B) (h' : FzI B C) : FzI A C := fun c i q => (h' c i q).trans (h c i q)
theorem FzI.o {M N : Mem} (h : FzO M N) : FzI M N := fun c i q => h c i q.1
theorem FzI.put {A : Mem} {v : Value} : FzI A (mPut A 170 15 v) := fun c j q => mSlot_put_ne (by unfold qIn at q; omega)
/-- what walking leaves as it is -/
def qFo (c i : Nat) : Prop := (c < 172 ∨ 175 < c) ∧ ¬ (c = 170 ∧ (i = 14 ∨ i = 15)) ∧ (c ≠ 157 ∧ c ≠ 163 ∧ c ≠ 169) ∧ ¬ ((c = 152 ∨ c = 158 ∨ c = 164) ∧ i = 7)
def FzF (M N : Mem) : Prop := ∀ c i, qFo c i → mSlot N c i = mSlot M c i
theorem FzF.rf {M : Mem} : FzF M M := fun _ _ _ => rfl
theorem FzF.tr {A B C : Mem} (h : FzF A B) (h' : FzF B C) : FzF A C := fun c i q => (h' c i q).trans (h c i q)
theorem FzF.i {M N : Mem} (h : FzI M N) : FzF M N := fun c i q => h c i (by unfold qFo at q; unfold qIn qOv; omega)
theorem FzF.put {A : Mem} {a i : Nat} {v : Value} (h : a = 175 ∨ (a = 170 ∧ (i = 14 ∨ i = 15))) : FzF A (mPut A a i v) := fun c j q => mSlot_put_ne (by unfold qFo at q; omega)
theorem FzF.fz {M N : Mem} (h : FzF M N) : FzC M N := fun c i q => h c i (by unfold qCh at q; unfold qFo; omega)
theorem fcd_f {M N N' : Mem} {s t : Int32} {n : Nat} (h : fcd M s t n N) (hS : Sh N') (f : FzF N N') : fcd M s t n N' := fcd_up h hS f.fz (fun c i q => f c i (by unfold qFo; omega))
theorem memC_k {M N N' : Mem} {W : Nat → WL} {s t : Int32} (h : memC M W s t N) (e : ∀ c i, c = 173 ∨ c = 174 → mSlot N' c i = mSlot N c i) : memC M W s t N' := by
  intro d y hd hy
  rw [lv_sl (e 173 y (Or.inl rfl)), lv_sl (e 174 y (Or.inr rfl))]
  exact h d y hd hy
def nthL : List Nat → Nat → Nat
  | [], _ => 0
  | x :: _, 0 => x
  | _ :: r, i + 1 => nthL r i
theorem nthL_lt {x : Nat} : ∀ (l : List Nat) (i : Nat), i < l.length → nthL (l ++ [x]) i = nthL l i
  | [], i, h => absurd h (Nat.not_lt_zero i)
  | _ :: _, 0, _ => rfl
  | _ :: r, i + 1, h => nthL_lt r i (Nat.lt_of_succ_lt_succ h)
theorem nthL_eq {x : Nat} : ∀ (l : List Nat), nthL (l ++ [x]) l.length = x
  | [] => rfl
  | _ :: r => nthL_eq r
theorem len_sn {x : Nat} (l : List Nat) : (l ++ [x]).length = l.length + 1 := by rw [List.length_append]; rfl
/-- what the class holds of a chain -/
def chn (N : Mem) (R : FL) : Prop := (iv N 170 14).toInt = (R.2.1.length : Int) ∧ (∀ i, i < R.2.1.length → (iv N 175 i).toInt = (nthL R.2.1 i : Int)) ∧ ∀ d, d < 40 → tbL (lv N 170 15) d = R.2.2 d
theorem fl_in {M N0 : Mem} {W : Nat → WL} {s t now : Int32} {st : Nat → Bool} {z : Int64} {a : Nat} {q : Nat → Bool} (hR : Rf M) (hg : gvC M) (hW : lwOk M W) (hO : ordC M) (hz : ∀ d, d < nC M → tbL z d = st d) : ∀ (n : Nat) {d : Nat} {L : MLoc} {N : Mem} {r : Option Value} {M1 : Mem} {f k x : Int32} (kk : Nat), mLd L 0 = some (.ref 170) → mLd L 1 = some (.long z) → mLd L 3 = some (.int now) → mLd L 4 = some (.int f) → mLd L 5 = some (.int x) → mLd L 6 = some (.int k) → k.toInt = ((a + kk : Nat) : Int) → a + kk ≤ nC M → x = obI (bstN (offS M st now) (btF M W s t 98) (ordF M) a kk) → fcd M s t (nC M) N → memC M W s t N → FzI N0 N → (∀ d, d < 40 → tbL (lv N 170 15) d = (lkN (offS M st now) (ordF M) a q kk d)) → En n d 5 37 L [] N r M1 → ∃ L' N' y, ((mLd L' 0 = some (.ref 170) ∧ mLd L' 1 = some (.long z) ∧ mLd L' 3 = some (.int now) ∧ mLd L' 4 = some (.int f) ∧ mLd L' 5 = some (.int y)) ∧ y = obI (bstN (offS M st now) (btF M W s t 98) (ordF M) a (nC M - a)) ∧ fcd M s t (nC M) N' ∧ memC M W s t N' ∧ FzI N0 N' ∧ (∀ d, d < 40 → tbL (lv N' 170 15) d = (lkN (offS M st now) (ordF M) a q (nC M - a) d))) ∧ En n d 5 142 L' [] N' r M1 := by
  intro n
  induction n with
  | zero => intro d L N r M1 f k x kk _ _ _ _ _ _ _ _ _ _ _ _ _ h; exact (En.zero (mi := 5) (pc := 37) (len := 2) rfl h).elim
  | succ n ih =>
    intro d L N r M1 f k x kk l0 l1 l3 l4 l5 l6 hk hkn hx hZ hM fi hlk h
    have hS := hZ.1
    have hY : yT8 N := fun e he => (hZ.2.1 8 e (by unfold qCh; omega)).trans (hR.1 e he)
    have n40 := ordC_n hO
    have e72 : iv N 7 2 = iv M 7 2 := hZ.2.1.lo (Or.inl (by decide))
    have up9 : ∀ {P : MLoc → Mem → Int32 → Prop}, (∃ L' N' y, P L' N' y ∧ En n d 5 142 L' [] N' r M1) → ∃ L' N' y, P L' N' y ∧ En (n + 1) d 5 142 L' [] N' r M1 := fun ⟨a, b, c, u, v⟩ => ⟨a, b, c, u, v.up (Nat.le_succ n)⟩
    replace h := eIloadS (mi := 5) (pc := 37) (len := 2) (i := 6) rfl l6 h
    replace h := eAload (mi := 5) (pc := 39) (len := 1) (i := 0) rfl l0 h
    replace h := eGetR (a := 170) (j := 1) (g := 7) hS (by decide) (by decide) rfl rfl rfl (mi := 5) (pc := 40) (len := 3) rfl h
    replace h := eGetI (a := 7) (j := 602) hS (by decide) (by decide) rfl (mi := 5) (pc := 43) (len := 3) rfl h
    rcases eIc (mi := 5) (pc := 46) (len := 3) (t := 142) rfl rfl h with ⟨c1, h⟩ | ⟨c1, h⟩
    · replace c1 : ¬ k.toInt < (iv N 7 2).toInt := mC_ge.1 c1
      rw [e72] at c1
      have ekk : kk = nC M - a := by unfold nC at hkn ⊢; omega
      rw [← ekk]
      exact ⟨L, N, x, ⟨⟨l0, l1, l3, l4, l5⟩, hx, hZ, hM, fi, hlk⟩, h.up (Nat.le_succ n)⟩
    · replace c1 : k.toInt < (iv N 7 2).toInt := mC_ge.2 c1
      rw [e72] at c1
      have kb : a + kk < nC M := by unfold nC; omega
      have ekn : k.toInt.toNat = a + kk := by omega
      have e9 : iv N 9 k.toInt.toNat = iv M 9 (a + kk) := by rw [ekn]; exact hZ.2.1.lo (Or.inl (by decide))
      have ei : (iv N 9 k.toInt.toNat).toInt = (ordF M (a + kk) : Int) := by rw [e9]; exact ordC_i hO (by omega)
      have en : (iv N 9 k.toInt.toNat).toInt.toNat = ordF M (a + kk) := by omega
      have on : ordF M (a + kk) < nC M := ordC_lt hO kb
      have ek : (k + 1).toInt = ((a + (kk + 1) : Nat) : Int) := by rw [i32_inc (by omega) (by omega)]; omega
      replace h := eAload (mi := 5) (pc := 49) (len := 1) (i := 0) rfl l0 h
      replace h := eGetR (a := 170) (j := 1) (g := 7) hS (by decide) (by decide) rfl rfl rfl (mi := 5) (pc := 50) (len := 3) rfl h
      replace h := eGetR (a := 7) (j := 601) (g := 9) hS (by decide) (by decide) rfl rfl rfl (mi := 5) (pc := 53) (len := 3) rfl h
      replace h := eIload (mi := 5) (pc := 56) (len := 2) (i := 6) rfl l6 h
      obtain ⟨bd2, h⟩ := eIald (x := k) hS (a := 9) (by decide) (by decide) rfl (mi := 5) (pc := 58) (len := 1) rfl h
      replace h := eIstore (mi := 5) (pc := 59) (len := 2) (i := 7) rfl (by decide) h
      replace h := eLload (mi := 5) (pc := 61) (len := 1) (i := 1) rfl (mLd_st1 (by decide) l1 (fun hc => absurd hc (by decide))) h
      replace h := eIload (mi := 5) (pc := 62) (len := 2) (i := 7) rfl mLd_st1_i h
      replace h := eLushr (mi := 5) (pc := 64) (len := 1) rfl h
      replace h := eLdc (mi := 5) (pc := 65) (len := 1) (j := 1) rfl h
      replace h := eLand (mi := 5) (pc := 66) (len := 1) rfl h
      replace h := eLdc (mi := 5) (pc := 67) (len := 1) (j := 0) rfl h
      replace h := eLcmp (mi := 5) (pc := 68) (len := 1) rfl h
      rcases eIf (mi := 5) (pc := 69) (len := 3) (t := 136) rfl rfl h with ⟨c3, h⟩ | ⟨c3, h⟩
      · replace c3 : (lg_cmp ((ushl z (iv N 9 k.toInt.toNat)) &&& (1 : Int64)) (0 : Int64)).toInt = 0 := mC_eq.1 c3
        replace h := eIinc (mi := 5) (pc := 136) (len := 3) (i := 6) (k := 1) rfl (mLd_st1_int (by decide) l6) (by decide) h
        replace h := eGoto (mi := 5) (pc := 139) (len := 3) (t := 37) rfl rfl h
        have st0 : st (ordF M (a + kk)) = false := by rw [← hz _ on]; exact (tb_shr ei (by omega)).mp c3
        have of0 : offS M st now (ordF M (a + kk)) = false := by unfold offS; rw [st0, Bool.false_and]
        exact up9 (ih (kk + 1) (mLd_st1_ref (by decide) (mLd_st1_ref (by decide) l0)) (mLd_st1 (by decide) (mLd_st1 (by decide) l1 (fun hc => absurd hc (by decide))) (fun hc => absurd hc (by decide))) (mLd_st1_int (by decide) (mLd_st1_int (by decide) l3)) (mLd_st1_int (by decide) (mLd_st1_int (by decide) l4)) (mLd_st1_int (by decide) (mLd_st1_int (by decide) l5)) mLd_st1_i ek (by omega) (by rw [bstN_s0 of0]; exact hx) hZ hM fi (fun d hd => by rw [lkN_s0 of0]; exact hlk d hd) h)
      · replace c3 : ¬ (lg_cmp ((ushl z (iv N 9 k.toInt.toNat)) &&& (1 : Int64)) (0 : Int64)).toInt = 0 := mC_eq.2 c3
        replace h := eAload (mi := 5) (pc := 72) (len := 1) (i := 0) rfl (mLd_st1_ref (by decide) l0) h
        replace h := eGetR (a := 170) (j := 1) (g := 7) hS (by decide) (by decide) rfl rfl rfl (mi := 5) (pc := 73) (len := 3) rfl h
        replace h := eGetR (a := 7) (j := 600) (g := 8) hS (by decide) (by decide) rfl rfl rfl (mi := 5) (pc := 76) (len := 3) rfl h
        replace h := eIload (mi := 5) (pc := 79) (len := 2) (i := 7) rfl mLd_st1_i h
        obtain ⟨bd4, h⟩ := eDeed (x := (iv N 9 k.toInt.toNat)) hS hY (mi := 5) (pc := 81) (len := 1) rfl h
        replace h := eGetD (e := (iv N 9 k.toInt.toNat).toInt.toNat) (f := 0) hS bd4.2 rfl rfl  (j := 100) (mi := 5) (pc := 82) (len := 3) rfl h
        replace h := eIload (mi := 5) (pc := 85) (len := 1) (i := 3) rfl (mLd_st1_int (by decide) l3) h
        rcases eIc (mi := 5) (pc := 86) (len := 3) (t := 136) rfl rfl h with ⟨c5, h⟩ | ⟨c5, h⟩
        · replace c5 : ¬ (iv N (10 + (iv N 9 k.toInt.toNat).toInt.toNat) 0).toInt = now.toInt := mC_ne.1 c5
          replace h := eIinc (mi := 5) (pc := 136) (len := 3) (i := 6) (k := 1) rfl (mLd_st1_int (by decide) l6) (by decide) h
          replace h := eGoto (mi := 5) (pc := 139) (len := 3) (t := 37) rfl rfl h
          have st1 : st (ordF M (a + kk)) = true := by
            cases q : st (ordF M (a + kk)) with
            | true => rfl
            | false => exact absurd ((tb_shr ei (by omega)).mpr ((hz _ on).trans q)) c3
          have eg : iv N (10 + (iv N 9 k.toInt.toNat).toInt.toNat) 0 = iv M (10 + ordF M (a + kk)) 0 := by rw [en]; exact hZ.2.1.lo (Or.inl (by omega))
          rw [eg] at c5
          have of0 : offS M st now (ordF M (a + kk)) = false := by unfold offS; rw [st1, decide_eq_false c5]; rfl
          exact up9 (ih (kk + 1) (mLd_st1_ref (by decide) (mLd_st1_ref (by decide) l0)) (mLd_st1 (by decide) (mLd_st1 (by decide) l1 (fun hc => absurd hc (by decide))) (fun hc => absurd hc (by decide))) (mLd_st1_int (by decide) (mLd_st1_int (by decide) l3)) (mLd_st1_int (by decide) (mLd_st1_int (by decide) l4)) (mLd_st1_int (by decide) (mLd_st1_int (by decide) l5)) mLd_st1_i ek (by omega) (by rw [bstN_s0 of0]; exact hx) hZ hM fi (fun d hd => by rw [lkN_s0 of0]; exact hlk d hd) h)
        · replace c5 : (iv N (10 + (iv N 9 k.toInt.toNat).toInt.toNat) 0).toInt = now.toInt := mC_ne.2 c5
          replace h := eAload (mi := 5) (pc := 89) (len := 1) (i := 0) rfl (mLd_st1_ref (by decide) l0) h
          replace h := eDupR (mi := 5) (pc := 90) (len := 1) rfl h
          replace h := eGetL (a := 170) (j := 15) hS (by decide) (by decide) rfl (mi := 5) (pc := 91) (len := 3) rfl h
          replace h := eLdc (mi := 5) (pc := 94) (len := 1) (j := 1) rfl h
          replace h := eIload (mi := 5) (pc := 95) (len := 2) (i := 7) rfl mLd_st1_i h
          replace h := eLshl (mi := 5) (pc := 97) (len := 1) rfl h
          replace h := eLor (mi := 5) (pc := 98) (len := 1) rfl h
          obtain ⟨N6, eN6⟩ : ∃ X_, X_ = mPut N 170 15 (.long ((lv N 170 15) ||| (bit1 (iv N 9 k.toInt.toNat)))) := ⟨_, rfl⟩
          replace h := ePutE (a := 170) (f := 15) (N := N6) rfl eN6 (mi := 5) (pc := 99) (len := 3) (j := 15) rfl h
          have hS7 : Sh N6 := by rw [eN6]; exact hS.putl (by decide) (by decide) rfl
          have fpN6 : FzI N N6 := by rw [eN6]; exact FzI.put
          have fiN6 : FzI N0 N6 := fi.tr fpN6
          have hZN6 := fcd_f hZ hS7 (FzF.i fpN6)
          have hMN6 : memC M W s t N6 := memC_k hM (fun c i q => by rw [eN6]; exact mSlot_put_ne (Or.inl (by omega)))
          have hYN6 : yT8 N6 := fun e he => (hZN6.2.1 8 e (by unfold qCh; omega)).trans (hR.1 e he)
          replace h := eIload (mi := 5) (pc := 102) (len := 2) (i := 5) rfl (mLd_st1_int (by decide) l5) h
          replace h := eConst (mi := 5) (pc := 104) (len := 1) (v := (-1)) rfl h
          rcases eIc (mi := 5) (pc := 105) (len := 3) (t := 127) rfl rfl h with ⟨c8, h⟩ | ⟨c8, h⟩
          · replace c8 : x.toInt = (-1) := mC_eq.1 c8
            replace h := eIload (mi := 5) (pc := 127) (len := 2) (i := 6) rfl (mLd_st1_int (by decide) l6) h
            replace h := eGoto (mi := 5) (pc := 129) (len := 3) (t := 134) rfl rfl h
            replace h := eIstore (mi := 5) (pc := 134) (len := 2) (i := 5) rfl (by decide) h
            replace h := eIinc (mi := 5) (pc := 136) (len := 3) (i := 6) (k := 1) rfl (mLd_st1_int (by decide) (mLd_st1_int (by decide) l6)) (by decide) h
            replace h := eGoto (mi := 5) (pc := 139) (len := 3) (t := 37) rfl rfl h
            have st1 : st (ordF M (a + kk)) = true := by
              cases q : st (ordF M (a + kk)) with
              | true => rfl
              | false => exact absurd ((tb_shr ei (by omega)).mpr ((hz _ on).trans q)) c3
            have eg : iv N (10 + (iv N 9 k.toInt.toNat).toInt.toNat) 0 = iv M (10 + ordF M (a + kk)) 0 := by rw [en]; exact hZ.2.1.lo (Or.inl (by omega))
            rw [eg] at c5
            have of1 : offS M st now (ordF M (a + kk)) = true := by unfold offS; rw [st1, decide_eq_true c5]; rfl
            have hlk1 : (∀ d, d < 40 → tbL (lv N6 170 15) d = (lkN (offS M st now) (ordF M) a q (kk + 1) d)) := fun d hd => by
              rw [eN6, lv_put_eq hS (by decide) (by decide) (by decide), tb_lor ei (by omega), lkN_s1 of1, hlk d hd]
            have hb : (bstN (offS M st now) (btF M W s t 98) (ordF M) a kk) = none := (obI_n hx (fun b q => by have := bstN_rng _ _ q; omega)).1.mp c8
            exact up9 (ih (kk + 1) (mLd_st1_ref (by decide) (mLd_st1_ref (by decide) (mLd_st1_ref (by decide) l0))) (mLd_st1 (by decide) (mLd_st1 (by decide) (mLd_st1 (by decide) l1 (fun hc => absurd hc (by decide))) (fun hc => absurd hc (by decide))) (fun hc => absurd hc (by decide))) (mLd_st1_int (by decide) (mLd_st1_int (by decide) (mLd_st1_int (by decide) l3))) (mLd_st1_int (by decide) (mLd_st1_int (by decide) (mLd_st1_int (by decide) l4))) (mLd_st1_int (by decide) mLd_st1_i) mLd_st1_i ek (by omega) (by rw [bstN_s1 of1 hb]; show k = Int32.ofNat (a + kk); rw [← ekn]; exact (i32_natR (by omega)).symm) hZN6 hMN6 fiN6 hlk1 h)
          · replace c8 : ¬ x.toInt = (-1) := mC_eq.2 c8
            replace h := eAload (mi := 5) (pc := 108) (len := 1) (i := 0) rfl (mLd_st1_ref (by decide) l0) h
            replace h := eAload (mi := 5) (pc := 109) (len := 1) (i := 0) rfl (mLd_st1_ref (by decide) l0) h
            replace h := eGetR (a := 170) (j := 1) (g := 7) hS7 (by decide) (by decide) rfl rfl rfl (mi := 5) (pc := 110) (len := 3) rfl h
            replace h := eGetR (a := 7) (j := 601) (g := 9) hS7 (by decide) (by decide) rfl rfl rfl (mi := 5) (pc := 113) (len := 3) rfl h
            replace h := eIload (mi := 5) (pc := 116) (len := 2) (i := 5) rfl (mLd_st1_int (by decide) l5) h
            obtain ⟨bd9, h⟩ := eIald (x := x) hS7 (a := 9) (by decide) (by decide) rfl (mi := 5) (pc := 118) (len := 1) rfl h
            replace h := eIload (mi := 5) (pc := 119) (len := 2) (i := 7) rfl mLd_st1_i h
            obtain ⟨r10, N11, g12, h⟩ := eCall (mi := 5) (pc := 121) (len := 3) (j := 6) (as := [.ref 170, .int (iv N6 9 x.toInt.toNat), .int (iv N 9 k.toInt.toNat)]) (rest := []) rfl (Or.inr (Or.inl rfl)) (by decide) rfl rfl h
            have st1 : st (ordF M (a + kk)) = true := by
              cases q : st (ordF M (a + kk)) with
              | true => rfl
              | false => exact absurd ((tb_shr ei (by omega)).mpr ((hz _ on).trans q)) c3
            have eg : iv N (10 + (iv N 9 k.toInt.toNat).toInt.toNat) 0 = iv M (10 + ordF M (a + kk)) 0 := by rw [en]; exact hZ.2.1.lo (Or.inl (by omega))
            rw [eg] at c5
            have of1 : offS M st now (ordF M (a + kk)) = true := by unfold offS; rw [st1, decide_eq_true c5]; rfl
            have hlk1 : (∀ d, d < 40 → tbL (lv N6 170 15) d = (lkN (offS M st now) (ordF M) a q (kk + 1) d)) := fun d hd => by
              rw [eN6, lv_put_eq hS (by decide) (by decide) (by decide), tb_lor ei (by omega), lkN_s1 of1, hlk d hd]
            obtain ⟨b, hb⟩ : ∃ b, (bstN (offS M st now) (btF M W s t 98) (ordF M) a kk) = some b := by
              cases qb : (bstN (offS M st now) (btF M W s t 98) (ordF M) a kk) with
              | some b => exact ⟨b, rfl⟩
              | none => exact absurd (by rw [hx, qb]; rfl) c8
            have br := bstN_rng _ _ hb
            have bi : x.toInt = (b : Int) := (obI_n hx (fun b q => by have := bstN_rng _ _ q; omega)).2 b hb
            have exb : (iv N6 9 x.toInt.toNat).toInt = (ordF M b : Int) := by
              rw [show x.toInt.toNat = b by omega, hZN6.2.1.lo (Or.inl (by decide))]
              exact ordC_i hO (by omega)
            have ob : ordF M b < nC M := ordC_lt hO (by omega)
            obtain ⟨erN11, hZN11, hMN11, foN11⟩ := over_en (xn := ordF M b) hR hg hW exb (by omega) (by rw [en]; exact on) n40 hZN6 hMN6 g12
            rw [erN11] at h
            have fiN11 : FzI N0 N11 := fiN6.tr (FzI.o foN11)
            rcases eIf (mi := 5) (pc := 124) (len := 3) (t := 132) rfl rfl h with ⟨c13, h⟩ | ⟨c13, h⟩
            · replace c13 : (btF M W s t 98 (iv N6 9 x.toInt.toNat).toInt.toNat (iv N 9 k.toInt.toNat).toInt.toNat) = false := mB_eq.1 c13
              replace h := eIload (mi := 5) (pc := 132) (len := 2) (i := 5) rfl (mLd_st1_int (by decide) l5) h
              replace h := eIstore (mi := 5) (pc := 134) (len := 2) (i := 5) rfl (by decide) h
              replace h := eIinc (mi := 5) (pc := 136) (len := 3) (i := 6) (k := 1) rfl (mLd_st1_int (by decide) (mLd_st1_int (by decide) l6)) (by decide) h
              replace h := eGoto (mi := 5) (pc := 139) (len := 3) (t := 37) rfl rfl h
              rw [show (iv N6 9 x.toInt.toNat).toInt.toNat = ordF M b by omega, en] at c13
              have hlk2 : (∀ d, d < 40 → tbL (lv N11 170 15) d = (lkN (offS M st now) (ordF M) a q (kk + 1) d)) := fun d hd => by rw [lv_sl (foN11 170 15 (by unfold qOv; omega))]; exact hlk1 d hd
              exact up9 (ih (kk + 1) (mLd_st1_ref (by decide) (mLd_st1_ref (by decide) (mLd_st1_ref (by decide) l0))) (mLd_st1 (by decide) (mLd_st1 (by decide) (mLd_st1 (by decide) l1 (fun hc => absurd hc (by decide))) (fun hc => absurd hc (by decide))) (fun hc => absurd hc (by decide))) (mLd_st1_int (by decide) (mLd_st1_int (by decide) (mLd_st1_int (by decide) l3))) (mLd_st1_int (by decide) (mLd_st1_int (by decide) (mLd_st1_int (by decide) l4))) (mLd_st1_int (by decide) mLd_st1_i) mLd_st1_i ek (by omega) (by rw [bstN_s2 of1 hb, c13]; show x = obI (some b); rw [← hb]; exact hx) hZN11 hMN11 fiN11 hlk2 h)
            · replace c13 : (btF M W s t 98 (iv N6 9 x.toInt.toNat).toInt.toNat (iv N 9 k.toInt.toNat).toInt.toNat) = true := mB_eq.2 c13
              replace h := eIload (mi := 5) (pc := 127) (len := 2) (i := 6) rfl (mLd_st1_int (by decide) l6) h
              replace h := eGoto (mi := 5) (pc := 129) (len := 3) (t := 134) rfl rfl h
              replace h := eIstore (mi := 5) (pc := 134) (len := 2) (i := 5) rfl (by decide) h
              replace h := eIinc (mi := 5) (pc := 136) (len := 3) (i := 6) (k := 1) rfl (mLd_st1_int (by decide) (mLd_st1_int (by decide) l6)) (by decide) h
              replace h := eGoto (mi := 5) (pc := 139) (len := 3) (t := 37) rfl rfl h
              rw [show (iv N6 9 x.toInt.toNat).toInt.toNat = ordF M b by omega, en] at c13
              have hlk2 : (∀ d, d < 40 → tbL (lv N11 170 15) d = (lkN (offS M st now) (ordF M) a q (kk + 1) d)) := fun d hd => by rw [lv_sl (foN11 170 15 (by unfold qOv; omega))]; exact hlk1 d hd
              exact up9 (ih (kk + 1) (mLd_st1_ref (by decide) (mLd_st1_ref (by decide) (mLd_st1_ref (by decide) l0))) (mLd_st1 (by decide) (mLd_st1 (by decide) (mLd_st1 (by decide) l1 (fun hc => absurd hc (by decide))) (fun hc => absurd hc (by decide))) (fun hc => absurd hc (by decide))) (mLd_st1_int (by decide) (mLd_st1_int (by decide) (mLd_st1_int (by decide) l3))) (mLd_st1_int (by decide) (mLd_st1_int (by decide) (mLd_st1_int (by decide) l4))) (mLd_st1_int (by decide) mLd_st1_i) mLd_st1_i ek (by omega) (by rw [bstN_s2 of1 hb, c13]; show k = Int32.ofNat (a + kk); rw [← ekn]; exact (i32_natR (by omega)).symm) hZN11 hMN11 fiN11 hlk2 h)
theorem fl_out {M N0 : Mem} {W : Nat → WL} {s t : Int32} {st : Nat → Bool} {z : Int64} (hR : Rf M) (hg : gvC M) (hW : lwOk M W) (hO : ordC M) (hz : ∀ d, d < nC M → tbL z d = st d) : ∀ (n : Nat) {d : Nat} {L : MLoc} {N : Mem} {r : Option Value} {M1 : Mem} {now f : Int32} (a : Nat) (l : List Nat) (q : Nat → Bool), mLd L 0 = some (.ref 170) → mLd L 1 = some (.long z) → mLd L 3 = some (.int now) → mLd L 4 = some (.int f) → f.toInt = (a : Int) → a ≤ nC M → l.length ≤ a → fcd M s t (nC M) N → memC M W s t N → FzF N0 N → chn N (now, l, q) → En n d 5 18 L [] N r M1 → r = some (.int (flw (offS M st) (btF M W s t 98) (fun d => iv M (10 + d) 1) (ordF M) (nC M) now a l q).1) ∧ fcd M s t (nC M) M1 ∧ memC M W s t M1 ∧ FzF N0 M1 ∧ chn M1 (flw (offS M st) (btF M W s t 98) (fun d => iv M (10 + d) 1) (ordF M) (nC M) now a l q) := by
  intro n
  induction n with
  | zero => intro d L N r M1 now f a l q _ _ _ _ _ _ _ _ _ _ _ h; exact (En.zero (mi := 5) (pc := 18) (len := 2) rfl h).elim
  | succ n ih =>
    intro d L N r M1 now f a l q l0 l1 l3 l4 hf ha hl hZ hM fi hc h
    have hS := hZ.1
    have hY : yT8 N := fun e he => (hZ.2.1 8 e (by unfold qCh; omega)).trans (hR.1 e he)
    have n40 := ordC_n hO
    have e72 : iv N 7 2 = iv M 7 2 := hZ.2.1.lo (Or.inl (by decide))
    replace h := eIloadS (mi := 5) (pc := 18) (len := 2) (i := 4) rfl l4 h
    replace h := eAload (mi := 5) (pc := 20) (len := 1) (i := 0) rfl l0 h
    replace h := eGetR (a := 170) (j := 1) (g := 7) hS (by decide) (by decide) rfl rfl rfl (mi := 5) (pc := 21) (len := 3) rfl h
    replace h := eGetI (a := 7) (j := 602) hS (by decide) (by decide) rfl (mi := 5) (pc := 24) (len := 3) rfl h
    rcases eIc (mi := 5) (pc := 27) (len := 3) (t := 209) rfl rfl h with ⟨c1, h⟩ | ⟨c1, h⟩
    · replace c1 : ¬ f.toInt < (iv N 7 2).toInt := mC_ge.1 c1
      replace h := eIload (mi := 5) (pc := 209) (len := 1) (i := 3) rfl l3 h
      obtain ⟨e1, e2⟩ := eRetI (mi := 5) (pc := 210) (len := 1) rfl h
      rw [e72] at c1
      have w : nC M ≤ a := by unfold nC; omega
      rw [flw_end w, e2]
      exact ⟨e1, hZ, hM, fi, hc⟩
    · replace c1 : f.toInt < (iv N 7 2).toInt := mC_ge.2 c1
      replace h := eConst (mi := 5) (pc := 30) (len := 1) (v := (-1)) rfl h
      replace h := eIstore (mi := 5) (pc := 31) (len := 2) (i := 5) rfl (by decide) h
      replace h := eIload (mi := 5) (pc := 33) (len := 2) (i := 4) rfl (mLd_st1_int (by decide) l4) h
      replace h := eIstore (mi := 5) (pc := 35) (len := 2) (i := 6) rfl (by decide) h
      rw [e72] at c1
      have kb : a < nC M := by unfold nC; omega
      obtain ⟨L2, N2, y, ⟨⟨k0, k1, k3, k4, k5⟩, hy, hZ2, hM2, fi2, hlk2⟩, h⟩ := fl_in (N0 := N) hR hg hW hO hz n (a := a) (q := q) 0 (mLd_st1_ref (by decide) (mLd_st1_ref (by decide) l0)) (mLd_st1 (by decide) (mLd_st1 (by decide) l1 (fun hc => absurd hc (by decide))) (fun hc => absurd hc (by decide))) (mLd_st1_int (by decide) (mLd_st1_int (by decide) l3)) (mLd_st1_int (by decide) (mLd_st1_int (by decide) l4)) (mLd_st1_int (by decide) mLd_st1_i) mLd_st1_i (by omega) (by omega) rfl hZ hM FzI.rf (fun d hd => hc.2.2 d hd) h
      have hS2 := hZ2.1
      have hY2 : yT8 N2 := fun e he => (hZ2.2.1 8 e (by unfold qCh; omega)).trans (hR.1 e he)
      have fq2 : FzF N0 N2 := fi.tr (FzF.i fi2)
      have br : ∀ b, (bstN (offS M st now) (btF M W s t 98) (ordF M) a (nC M - a)) = some b → b < nC M := fun b q => by have := bstN_rng _ _ q; omega
      have ob := obI_n hy (fun b q => by have := br b q; omega)
      replace h := eIload (mi := 5) (pc := 142) (len := 2) (i := 5) rfl k5 h
      replace h := eConst (mi := 5) (pc := 144) (len := 1) (v := (-1)) rfl h
      rcases eIc (mi := 5) (pc := 145) (len := 3) (t := 150) rfl rfl h with ⟨c2, h⟩ | ⟨c2, h⟩
      · replace c2 : ¬ y.toInt = (-1) := mC_ne.1 c2
        obtain ⟨b, hb⟩ : ∃ b, (bstN (offS M st now) (btF M W s t 98) (ordF M) a (nC M - a)) = some b := by
          cases qb : (bstN (offS M st now) (btF M W s t 98) (ordF M) a (nC M - a)) with
          | some b => exact ⟨b, rfl⟩
          | none => exact absurd (by rw [hy, qb]; rfl) c2
        have bn := br b hb
        have ba := (bstN_rng _ _ hb).1
        have bi : y.toInt = (b : Int) := ob.2 b hb
        have bt : y.toInt.toNat = b := by omega
        have e9 : iv N2 9 y.toInt.toNat = iv M 9 b := by rw [bt]; exact hZ2.2.1.lo (Or.inl (by decide))
        have ei : (iv N2 9 y.toInt.toNat).toInt = (ordF M b : Int) := by rw [e9]; exact ordC_i hO (by omega)
        have e14 : (iv N2 170 14).toInt = (l.length : Int) := by rw [show iv N2 170 14 = iv N 170 14 by unfold iv; rw [fi2 170 14 (by unfold qIn qOv; omega)]]; exact hc.1
        have l40 : l.length < 40 := by omega
        replace h := eAload (mi := 5) (pc := 150) (len := 1) (i := 0) rfl k0 h
        replace h := eGetR (a := 170) (j := 13) (g := 175) hS2 (by decide) (by decide) rfl rfl rfl (mi := 5) (pc := 151) (len := 3) rfl h
        replace h := eAload (mi := 5) (pc := 154) (len := 1) (i := 0) rfl k0 h
        replace h := eGetI (a := 170) (j := 14) hS2 (by decide) (by decide) rfl (mi := 5) (pc := 155) (len := 3) rfl h
        replace h := eAload (mi := 5) (pc := 158) (len := 1) (i := 0) rfl k0 h
        replace h := eGetR (a := 170) (j := 1) (g := 7) hS2 (by decide) (by decide) rfl rfl rfl (mi := 5) (pc := 159) (len := 3) rfl h
        replace h := eGetR (a := 7) (j := 601) (g := 9) hS2 (by decide) (by decide) rfl rfl rfl (mi := 5) (pc := 162) (len := 3) rfl h
        replace h := eIload (mi := 5) (pc := 165) (len := 2) (i := 5) rfl k5 h
        obtain ⟨bd3, h⟩ := eIald (x := y) hS2 (a := 9) (by decide) (by decide) rfl (mi := 5) (pc := 167) (len := 1) rfl h
        obtain ⟨N5, eN5⟩ : ∃ X_, X_ = mPut N2 175 (iv N2 170 14).toInt.toNat (.int (iv N2 9 y.toInt.toNat)) := ⟨_, rfl⟩
        obtain ⟨bd4, h⟩ := eIast (x := (iv N2 170 14)) (N := N5) hS2 (a := 175) (by decide) (by decide) eN5 (mi := 5) (pc := 168) (len := 1) rfl h
        have hS6 : Sh N5 := by rw [eN5]; exact hS2.put (by decide) (by decide) rfl
        have fpN5 : FzF N2 N5 := by rw [eN5]; exact FzF.put (by omega)
        have fiN5 : FzF N0 N5 := fq2.tr fpN5
        have hZN5 := fcd_f hZ2 hS6 fpN5
        have hMN5 : memC M W s t N5 := memC_k hM2 (fun c i q => by rw [eN5]; exact mSlot_put_ne (Or.inl (by omega)))
        have hYN5 : yT8 N5 := fun e he => (hZN5.2.1 8 e (by unfold qCh; omega)).trans (hR.1 e he)
        replace h := eAload (mi := 5) (pc := 169) (len := 1) (i := 0) rfl k0 h
        replace h := eGetR (a := 170) (j := 1) (g := 7) hS6 (by decide) (by decide) rfl rfl rfl (mi := 5) (pc := 170) (len := 3) rfl h
        replace h := eGetR (a := 7) (j := 600) (g := 8) hS6 (by decide) (by decide) rfl rfl rfl (mi := 5) (pc := 173) (len := 3) rfl h
        replace h := eAload (mi := 5) (pc := 176) (len := 1) (i := 0) rfl k0 h
        replace h := eGetR (a := 170) (j := 13) (g := 175) hS6 (by decide) (by decide) rfl rfl rfl (mi := 5) (pc := 177) (len := 3) rfl h
        replace h := eAload (mi := 5) (pc := 180) (len := 1) (i := 0) rfl k0 h
        replace h := eGetI (a := 170) (j := 14) hS6 (by decide) (by decide) rfl (mi := 5) (pc := 181) (len := 3) rfl h
        obtain ⟨bd7, h⟩ := eIald (x := (iv N5 170 14)) hS6 (a := 175) (by decide) (by decide) rfl (mi := 5) (pc := 184) (len := 1) rfl h
        obtain ⟨bd8, h⟩ := eDeed (x := (iv N5 175 (iv N5 170 14).toInt.toNat)) hS6 hYN5 (mi := 5) (pc := 185) (len := 1) rfl h
        replace h := eGetD (e := (iv N5 175 (iv N5 170 14).toInt.toNat).toInt.toNat) (f := 1) hS6 bd8.2 rfl rfl  (j := 101) (mi := 5) (pc := 186) (len := 3) rfl h
        replace h := eIstore (mi := 5) (pc := 189) (len := 1) (i := 3) rfl (by decide) h
        replace h := eAload (mi := 5) (pc := 190) (len := 1) (i := 0) rfl (mLd_st1_ref (by decide) k0) h
        replace h := eDupR (mi := 5) (pc := 191) (len := 1) rfl h
        replace h := eGetI (a := 170) (j := 14) hS6 (by decide) (by decide) rfl (mi := 5) (pc := 192) (len := 3) rfl h
        replace h := eConst (mi := 5) (pc := 195) (len := 1) (v := 1) rfl h
        replace h := eAdd (mi := 5) (pc := 196) (len := 1) rfl h
        obtain ⟨N9, eN9⟩ : ∃ X_, X_ = mPut N5 170 14 (.int ((iv N5 170 14) + (1 : Int32))) := ⟨_, rfl⟩
        replace h := ePutE (a := 170) (f := 14) (N := N9) rfl eN9 (mi := 5) (pc := 197) (len := 3) (j := 14) rfl h
        have hS10 : Sh N9 := by rw [eN9]; exact hS6.put (by decide) (by decide) rfl
        have fpN9 : FzF N5 N9 := by rw [eN9]; exact FzF.put (by omega)
        have fiN9 : FzF N0 N9 := fiN5.tr fpN9
        have hZN9 := fcd_f hZN5 hS10 fpN9
        have hMN9 : memC M W s t N9 := memC_k hMN5 (fun c i q => by rw [eN9]; exact mSlot_put_ne (Or.inl (by omega)))
        have hYN9 : yT8 N9 := fun e he => (hZN9.2.1 8 e (by unfold qCh; omega)).trans (hR.1 e he)
        replace h := eIload (mi := 5) (pc := 200) (len := 2) (i := 5) rfl (mLd_st1_int (by decide) k5) h
        replace h := eConst (mi := 5) (pc := 202) (len := 1) (v := 1) rfl h
        replace h := eAdd (mi := 5) (pc := 203) (len := 1) rfl h
        replace h := eIstore (mi := 5) (pc := 204) (len := 2) (i := 4) rfl (by decide) h
        replace h := eGoto (mi := 5) (pc := 206) (len := 3) (t := 18) rfl rfl h
        have f14 : iv N5 170 14 = iv N2 170 14 := by rw [eN5]; exact iv_put_ne (Or.inl (by decide))
        have el : (iv N2 170 14).toInt.toNat = l.length := by omega
        have f175 : iv N5 175 (iv N5 170 14).toInt.toNat = iv N2 9 y.toInt.toNat := by rw [f14, eN5]; exact iv_put_eq hS2 (by decide) (by decide) (by rw [el]; exact l40)
        have ent : (iv N5 (10 + (iv N5 175 (iv N5 170 14).toInt.toNat).toInt.toNat) 1) = iv M (10 + ordF M b) 1 := by rw [f175, show (iv N2 9 y.toInt.toNat).toInt.toNat = ordF M b by omega]; exact hZN5.2.1.lo (Or.inl (by have := ordC_lt hO bn; omega))
        have g14 : (iv N9 170 14).toInt = ((l ++ [ordF M b]).length : Int) := by
          rw [len_sn, eN9, iv_put_eq hS6 (by decide) (by decide) (by decide), f14, i32_inc (by omega) (by omega)]
          omega
        have hc2 : chn N9 ((iv N5 (10 + (iv N5 175 (iv N5 170 14).toInt.toNat).toInt.toNat) 1), l ++ [ordF M b], lkN (offS M st now) (ordF M) a q (nC M - a)) := by
          refine ⟨g14, fun i hi => ?_, fun d hd => ?_⟩
          · have hi : i < (l ++ [ordF M b]).length := hi
            rw [len_sn] at hi
            show (iv N9 175 i).toInt = (nthL (l ++ [ordF M b]) i : Int)
            rw [eN9, iv_put_ne (Or.inl (by decide)), eN5]
            by_cases c : i = l.length
            · rw [c, nthL_eq, ← el, iv_put_eq hS2 (by decide) (by decide) (by rw [el]; exact l40)]
              exact ei
            · rw [nthL_lt l i (by omega), iv_put_ne (Or.inr (by omega)), show iv N2 175 i = iv N 175 i by unfold iv; rw [fi2 175 i (by unfold qIn qOv; omega)]]
              exact hc.2.1 i (by show i < l.length; omega)
          · show tbL (lv N9 170 15) d = lkN (offS M st now) (ordF M) a q (nC M - a) d
            rw [eN9, lv_put_ne (Or.inr (by decide)), eN5, lv_put_ne (Or.inl (by decide))]
            exact hlk2 d hd
        have ey : (y + 1).toInt = ((b + 1 : Nat) : Int) := by rw [i32_inc (by omega) (by omega)]; omega
        have z := ih (f := y + 1) (b + 1) (l ++ [ordF M b]) (lkN (offS M st now) (ordF M) a q (nC M - a)) (mLd_st1_ref (by decide) (mLd_st1_ref (by decide) k0)) (mLd_st1 (by decide) (mLd_st1 (by decide) k1 (fun hc => absurd hc (by decide))) (fun hc => absurd hc (by decide))) (mLd_st1_int (by decide) mLd_st1_i) mLd_st1_i ey (by omega) (by rw [len_sn]; omega) hZN9 hMN9 fiN9 hc2 h
        rw [ent] at z
        rw [flw_some hb]
        exact z
      · replace c2 : y.toInt = (-1) := mC_ne.2 c2
        replace h := eIload (mi := 5) (pc := 148) (len := 1) (i := 3) rfl k3 h
        obtain ⟨e1, e2⟩ := eRetI (mi := 5) (pc := 149) (len := 1) rfl h
        rw [flw_none (ob.1.mp c2), e2]
        refine ⟨e1, hZ2, hM2, fq2, ?_, fun i hi => ?_, fun d hd => hlk2 d hd⟩
        · rw [show iv N2 170 14 = iv N 170 14 by unfold iv; rw [fi2 170 14 (by unfold qIn qOv; omega)]]; exact hc.1
        · rw [show iv N2 175 i = iv N 175 i by unfold iv; rw [fi2 175 i (by unfold qIn qOv; omega)]]; exact hc.2.1 i hi
theorem follow_en {M N : Mem} {W : Nat → WL} {s t : Int32} {st : Nat → Bool} {z : Int64} (hR : Rf M) (hg : gvC M) (hW : lwOk M W) (hO : ordC M) (hz : ∀ d, d < nC M → tbL z d = st d) (hZ : fcd M s t (nC M) N) (hM : memC M W s t N) {n d : Nat} {r : Option Value} {M1 : Mem} (h : En n d 5 0 (lv_args 0 [.ref 170, .long z]) [] N r M1) : r = some (.int (chF M W st s t).1) ∧ fcd M s t (nC M) M1 ∧ memC M W s t M1 ∧ FzF N M1 ∧ chn M1 (chF M W st s t) := by
  have hS := hZ.1
  obtain ⟨N0, eN0⟩ : ∃ X_, X_ = N := ⟨_, rfl⟩
  have fi : FzF N0 N := by rw [eN0]; exact FzF.rf
  replace h := eAload (mi := 5) (pc := 0) (len := 1) (i := 0) rfl rfl h
  replace h := eConst (mi := 5) (pc := 1) (len := 1) (v := 0) rfl h
  obtain ⟨N1, eN1⟩ : ∃ X_, X_ = mPut N 170 14 (.int (0 : Int32)) := ⟨_, rfl⟩
  replace h := ePutE (a := 170) (f := 14) (N := N1) rfl eN1 (mi := 5) (pc := 2) (len := 3) (j := 14) rfl h
  have hS2 : Sh N1 := by rw [eN1]; exact hS.put (by decide) (by decide) rfl
  have fpN1 : FzF N N1 := by rw [eN1]; exact FzF.put (by omega)
  have fiN1 : FzF N0 N1 := fi.tr fpN1
  have hZN1 := fcd_f hZ hS2 fpN1
  have hMN1 : memC M W s t N1 := memC_k hM (fun c i q => by rw [eN1]; exact mSlot_put_ne (Or.inl (by omega)))
  have hYN1 : yT8 N1 := fun e he => (hZN1.2.1 8 e (by unfold qCh; omega)).trans (hR.1 e he)
  replace h := eAload (mi := 5) (pc := 5) (len := 1) (i := 0) rfl rfl h
  replace h := eLdc (mi := 5) (pc := 6) (len := 1) (j := 0) rfl h
  obtain ⟨N3, eN3⟩ : ∃ X_, X_ = mPut N1 170 15 (.long (0 : Int64)) := ⟨_, rfl⟩
  replace h := ePutE (a := 170) (f := 15) (N := N3) rfl eN3 (mi := 5) (pc := 7) (len := 3) (j := 15) rfl h
  have hS4 : Sh N3 := by rw [eN3]; exact hS2.putl (by decide) (by decide) rfl
  have fpN3 : FzF N1 N3 := by rw [eN3]; exact FzF.put (by omega)
  have fiN3 : FzF N0 N3 := fiN1.tr fpN3
  have hZN3 := fcd_f hZN1 hS4 fpN3
  have hMN3 : memC M W s t N3 := memC_k hMN1 (fun c i q => by rw [eN3]; exact mSlot_put_ne (Or.inl (by omega)))
  have hYN3 : yT8 N3 := fun e he => (hZN3.2.1 8 e (by unfold qCh; omega)).trans (hR.1 e he)
  replace h := eAload (mi := 5) (pc := 10) (len := 1) (i := 0) rfl rfl h
  replace h := eGetI (a := 170) (j := 6) hS4 (by decide) (by decide) rfl (mi := 5) (pc := 11) (len := 3) rfl h
  replace h := eIstore (mi := 5) (pc := 14) (len := 1) (i := 3) rfl (by decide) h
  replace h := eConst (mi := 5) (pc := 15) (len := 1) (v := 0) rfl h
  replace h := eIstore (mi := 5) (pc := 16) (len := 2) (i := 4) rfl (by decide) h
  have eo : (iv N3 170 6) = iv M 5 s.toInt.toNat := hZN3.2.2.2.2.2.1
  have p1 : (iv N3 170 14).toInt = ((([] : List Nat).length : Nat) : Int) := by
    rw [eN3, iv_put_ne (Or.inr (by decide)), eN1, iv_put_eq hS (by decide) (by decide) (by decide)]
    rfl
  have p3 : ∀ d, d < 40 → tbL (lv N3 170 15) d = false := fun d hd => by
    rw [eN3, lv_put_eq hS2 (by decide) (by decide) (by decide)]
    exact tb_0
  have z := fl_out (N0 := N0) (st := st) hR hg hW hO hz _ 0 [] (fun _ => false) rfl rfl rfl rfl rfl (by omega) (Nat.le_refl _) hZN3 hMN3 fiN3 ⟨p1, fun i hi => absurd hi (Nat.not_lt_zero i), p3⟩ h
  rw [eo, eN0] at z
  exact z
theorem Rf_fz {M N : Mem} (h : Rf M) (f : FzC M N) : Rf N := ⟨fun e he => (f 8 e (by unfold qCh; omega)).trans (h.1 e he), fun k hk => (f 129 k (by unfold qCh; omega)).trans (h.2.1 k hk), fun p hp => (f 99 p (by unfold qCh; omega)).trans (h.2.2.1 p hp), fun i hi => (f 142 i (by unfold qCh; omega)).trans (h.2.2.2 i hi)⟩
theorem nC_fz {M N : Mem} (f : FzC M N) : nC N = nC M := by
  unfold nC
  rw [f.lo (c := 7) (Or.inl (by decide))]
theorem bOf_fz {M N : Mem} (f : FzC M N) {e : Nat} (he : e < 40) (s : Int32) : bOf N e s = bOf M e s := by
  unfold bOf
  rw [f.lo (c := 10 + e) (Or.inl (by omega))]
theorem bVoid_fz {M N : Mem} (f : FzC M N) {e : Nat} (he : e < 40) : bVoid N e = bVoid M e := by
  unfold bVoid bDead
  rw [f.lo (c := 10 + e) (i := 6) (Or.inl (by omega)), f.lo (c := 10 + e) (i := 0) (Or.inl (by omega)), f.lo (c := 10 + e) (i := 3) (Or.inl (by omega)), f.lo (c := 4) (Or.inl (by decide))]
theorem bKs_fz {M N : Mem} (f : FzC M N) {e : Nat} (he : e < 40) (s : Int32) : bKs N e s = bKs M e s := by
  unfold bKs
  rw [f.lo (c := 10 + e) (i := 4) (Or.inl (by omega)), bOf_fz f he]
theorem bGd_fz {M N : Mem} (f : FzC M N) {e : Nat} (he : e < 40) (s t : Int32) : bGd N e s t = bGd M e s t := by
  unfold bGd
  rw [f.lo (c := 10 + e) (i := 3) (Or.inl (by omega)), bOf_fz f he, bVoid_fz f he]
theorem tFold_fz {M N : Mem} (f : FzC M N) (s : Int32) (p : Nat) : ∀ k, k ≤ 40 → tFold N s k p = tFold M s k p := by
  intro k
  induction k with
  | zero => intro _; rfl
  | succ k ih =>
    intro hk
    show (bif bKs N k s && decide ((iv N (10 + k) 1).toInt.toNat = p) then minI (tFold N s k p) (iv N (10 + k) 7) else tFold N s k p) = (bif bKs M k s && decide ((iv M (10 + k) 1).toInt.toNat = p) then minI (tFold M s k p) (iv M (10 + k) 7) else tFold M s k p)
    rw [bKs_fz f (by omega), f.lo (c := 10 + k) (i := 1) (Or.inl (by omega)), f.lo (c := 10 + k) (i := 7) (Or.inl (by omega)), ih (by omega)]
theorem sFold_fz {M N : Mem} (f : FzC M N) (s t : Int32) : ∀ k, k ≤ 40 → sFold N s t k = sFold M s t k := by
  intro k
  induction k with
  | zero => intro _; rfl
  | succ k ih =>
    intro hk
    show (bif bKs N k s then (bif bGd N k s t then sFold N s t k ||| bit1 (Int32.ofNat k) else sFold N s t k &&& (bit1 (Int32.ofNat k) ^^^ -1)) else sFold N s t k) = (bif bKs M k s then (bif bGd M k s t then sFold M s t k ||| bit1 (Int32.ofNat k) else sFold M s t k &&& (bit1 (Int32.ofNat k) ^^^ -1)) else sFold M s t k)
    rw [bKs_fz f (by omega), bGd_fz f (by omega), ih (by omega)]
/-- faced out of a later memory -/
theorem fcd_tr {M N N1 : Mem} {s t : Int32} (f : FzC M N) (n40 : nC M ≤ 40) (h : fcd N s t (nC N) N1) : fcd M s t (nC M) N1 := by
  rw [nC_fz f] at h
  obtain ⟨h1, h2, h3, h4, h5, h6, h7, h8, h9, h10⟩ := h
  have e5 : iv N 5 s.toInt.toNat = iv M 5 s.toInt.toNat := f.lo (Or.inl (by decide))
  have e6 : iv N 6 s.toInt.toNat = iv M 6 s.toInt.toNat := f.lo (Or.inl (by decide))
  rw [e5] at h6
  rw [e6] at h7 h8
  rw [sFold_fz f s t _ n40] at h9
  exact ⟨h1, f.tr h2, h3, h4, h5, h6, h7, h8, h9, fun p hp => (h10 p hp).trans (tFold_fz f s p _ n40)⟩
theorem hldBy_en {M N : Mem} {W : Nat → WL} {s t : Int32} (hS : Sh N) (fz : FzC M N) (hR : Rf M) (hg : gvC M) (hW : lwOk M W) (hO : ordC M) {n d : Nat} {r : Option Value} {M1 : Mem} (h : En n d 2 0 (lv_args 0 [.ref 170, .int s, .int t]) [] N r M1) : r = some (.int (holdF M W s t).1) ∧ fcd M s t (nC M) M1 ∧ memC M W s t M1 ∧ chn M1 (holdF M W s t) := by
  replace h := eAload (mi := 2) (pc := 0) (len := 1) (i := 0) rfl rfl h
  replace h := eIload (mi := 2) (pc := 1) (len := 1) (i := 1) rfl rfl h
  replace h := eIload (mi := 2) (pc := 2) (len := 1) (i := 2) rfl rfl h
  obtain ⟨r1, N2, g3, h⟩ := eCall (mi := 2) (pc := 3) (len := 3) (j := 1) (as := [.ref 170, .int s, .int t]) (rest := []) rfl (Or.inr (Or.inl rfl)) (by decide) rfl rfl h
  have n40 := ordC_n hO
  obtain ⟨erN2, hFN2⟩ := face_en hS (Rf_fz hR fz) g3
  rw [erN2] at h
  have hZN2 := fcd_tr fz n40 (fcd_of hFN2)
  have hMN2 : memC M W s t N2 := memC_0 (fun e he => hFN2.2.2.2.2.2.2.2.2.2.2 e (show e < nC N by rw [nC_fz fz]; exact he))
  replace h := eAload (mi := 2) (pc := 6) (len := 1) (i := 0) rfl rfl h
  replace h := eAload (mi := 2) (pc := 7) (len := 1) (i := 0) rfl rfl h
  replace h := eGetL (a := 170) (j := 8) hZN2.1 (by decide) (by decide) rfl (mi := 2) (pc := 8) (len := 3) rfl h
  obtain ⟨r4, N5, g6, h⟩ := eCall (mi := 2) (pc := 11) (len := 3) (j := 5) (as := [.ref 170, .long (lv N2 170 8)]) (rest := []) rfl (Or.inr (Or.inl rfl)) (by decide) rfl rfl h
  obtain ⟨erN5, hZN5, hMN5, foN5, hcN5⟩ := follow_en (st := stgF M s t) hR hg hW hO (fun d hd => by rw [hZN2.2.2.2.2.2.2.2.2.1, tb_sF _ n40 d (by omega), decide_eq_true hd, Bool.true_and]) hZN2 hMN2 g6
  rw [erN5] at h
  obtain ⟨e1, e2⟩ := eRetI (mi := 2) (pc := 14) (len := 1) rfl h
  rw [e2]
  exact ⟨e1, hZN5, hMN5, hcN5⟩

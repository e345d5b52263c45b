/-! programs: the clauses of a letter (printed by fn30.py) -/
/-- a condition comes to a truth value -/
theorem ev_01 {F ty : Nat → Int} {fc : Nat → Int32} {C b0 : Nat} {v : Int32} (hty : ∀ i, b0 ≤ i → i < C → tyOk F ty (fun _ => False) C i ∧ ty i ≤ 16) (hC : ty C = -1) : ∀ {k i n : Nat} {s : Nat → Int32}, b0 ≤ i → i ≤ C → TI ty i n s → ev F fc C k (i, n, s) = some v → v = 0 ∨ v = 1
  | 0, _, _, _, _, _, _, h => nomatch h
  | k + 1, i, n, s, h0, h1, hI, h => by
    by_cases c : C ≤ i
    · have e : i = C := by omega
      subst e
      rw [ev_end c] at h
      rw [← Option.some.inj h]
      exact (hI.one hC).2
    rcases (hty i h0 (by omega)).1 with ⟨a, b, d⟩ | ⟨a, b, d⟩ | ⟨a, b, d⟩ | ⟨a, b, d⟩ | ⟨a, b, d, q⟩
    · have hm := hI.pos b
      rcases a with a | a
      · rw [ev_num (by omega) a] at h
        exact ev_01 hty hC (by omega) (by omega) (TI.mk (by omega) (by omega)) h
      · rw [ev_let (by omega) a.1] at h
        exact ev_01 hty hC (by omega) (by omega) (TI.mk (by omega) (by omega)) h
    · have hm := hI.pos (by omega)
      rw [ev_rk (by omega) (by omega)] at h
      by_cases z : (cOp (F i) = 5 ∨ cOp (F i) = 6) ∧ s (n - 1) = 0
      · rw [if_pos z] at h
        exact Or.inl (Option.some.inj h).symm
      · rw [if_neg z] at h
        exact ev_01 hty hC (by omega) (by omega) (TI.mk (by omega) (by omega)) h
    · have hm := hI.pos (by omega)
      obtain ⟨m, rfl⟩ : ∃ m, n = m + 2 := ⟨n - 2, by omega⟩
      have m0 : m = 0 := by omega
      subst m0
      rw [ev_rk (by omega) (by omega), if_neg (by omega)] at h
      exact ev_01 hty hC (by omega) (by omega) (TI.mk1 d (by rw [sUp_eq]; exact rkO_01 a)) h
    · obtain ⟨m1, h01⟩ := hI.one b
      subst m1
      rw [ev_not (by omega) a] at h
      exact ev_01 hty hC (by omega) (by omega) (TI.mk1 d (by rw [sUp_eq]; exact not_01 h01)) h
    · obtain ⟨m1, h01⟩ := hI.one b
      subst m1
      obtain ⟨v0, v1, v2, v3, v4⟩ := q.resolve_left id
      rw [ev_jmp (by omega) a] at h
      by_cases z : (s (1 - 1)).toInt = (if cOp (F i) = 12 then 1 else 0)
      · rw [if_pos z, show (cAr (F i)).toNat = v0 by omega] at h
        exact ev_01 hty hC (by omega) v3 (TI.mk1 v4 h01) h
      · rw [if_neg z] at h
        exact ev_01 hty hC (by omega) (by omega) (TI.mk (by omega) (by omega)) h
/-- what clause j's condition comes to -/
def EVc (F : Nat → Int) (fc : Nat → Int32) (CB CE : Nat → Nat) (j : Nat) (v : Int32) : Prop := ∃ k, ev F fc (CE j) k (CB j, 0, fun _ => 0) = some v
theorem EVc.one {F : Nat → Int} {fc : Nat → Int32} {CB CE : Nat → Nat} {j : Nat} {v v' : Int32} (h : EVc F fc CB CE j v) (h' : EVc F fc CB CE j v') : v = v' := by
  obtain ⟨k, a⟩ := h
  obtain ⟨k', b⟩ := h'
  exact ev_one a b
/-- the first clause of a letter whose condition holds -/
def GRl (LT : Nat → Int) (c : Int) (E : Nat → Int32 → Prop) : Nat → Nat → Bool → Prop
  | 0, _, b => b = false
  | k + 1, j, b => (¬ LT j = c ∧ GRl LT c E k (j + 1) b) ∨ (LT j = c ∧ ∃ v, E j v ∧ ((¬ v = 0 ∧ b = true) ∨ (v = 0 ∧ GRl LT c E k (j + 1) b)))
theorem GRl.one {LT : Nat → Int} {c : Int} {E : Nat → Int32 → Prop} (hE : ∀ j v v', E j v → E j v' → v = v') : ∀ {k j : Nat} {b b' : Bool}, GRl LT c E k j b → GRl LT c E k j b' → b = b'
  | 0, _, _, _, h, h' => by
    have h : _ = false := h
    have h' : _ = false := h'
    rw [h, h']
  | k + 1, j, b, b', h, h' => by
    rcases h with ⟨l, h⟩ | ⟨l, v, e, h⟩
    · rcases h' with ⟨_, h'⟩ | ⟨l', _⟩
      · exact GRl.one hE h h'
      · exact absurd l' l
    · rcases h' with ⟨l', _⟩ | ⟨_, v', e', h'⟩
      · exact absurd l l'
      · have q := hE j v v' e e'
        subst q
        rcases h with ⟨z, h⟩ | ⟨z, h⟩
        · rcases h' with ⟨_, h'⟩ | ⟨z', _⟩
          · rw [h, h']
          · exact absurd z' z
        · rcases h' with ⟨z', _⟩ | ⟨_, h'⟩
          · exact absurd z z'
          · exact GRl.one hE h h'
/-- a law's clauses as the class keeps them -/
def CLG (A S : Nat) (F : Nat → Int) (fc : Nat → Int32) (n : Nat) (LT : Nat → Int) (CB CE : Nat → Nat) (sk : Nat → Int) (M : Mem) : Prop := (iv M A 5).toInt = (n : Int) ∧ n ≤ 12 ∧ ∀ j, j < n → (iv M (A + 2) j).toInt = LT j ∧ (iv M (A + 3) j).toInt = (CB j : Int) + sk j ∧ RS A S F fc (CB j) (CE j) (sk j) M ∧ ∃ ty, PT F ty (CB j) (CE j) (-1)
theorem CLG.fr {A S K : Nat} {F : Nat → Int} {fc : Nat → Int32} {n : Nat} {LT : Nat → Int} {CB CE : Nat → Nat} {sk : Nat → Int} {M N : Mem} (h : CLG A S F fc n LT CB CE sk M) (f : FrA A K M N) (hA : S ≠ A ∧ S ≠ K ∧ A ≠ K ∧ 172 ≠ A ∧ 172 ≠ K) (hA2 : A + 2 ≠ K ∧ A + 3 ≠ K) : CLG A S F fc n LT CB CE sk N := by
  obtain ⟨h1, h2, h3⟩ := h
  refine ⟨by rw [f.si (fun q => by omega) hA.2.2.1]; exact h1, h2, fun j hj => ?_⟩
  obtain ⟨a, b, c, d⟩ := h3 j hj
  exact ⟨by rw [f.si (fun q => by omega) hA2.1]; exact a, by rw [f.si (fun q => by omega) hA2.2]; exact b, c.fr f hA, d⟩
theorem gr152_lp {F : Nat → Int} {fc : Nat → Int32} {n0 : Nat} {LT : Nat → Int} {CB CE : Nat → Nat} {sk : Nat → Int} {x1 : Int32} {lt : Int} (h1 : x1.toInt = lt) : ∀ (n d : Nat) (L : MLoc) (M : Mem) (r : Option Value) (M1 : Mem) (x3 : Int32) (j k1 : Nat), mLd L 0 = some (.ref 152) → mLd L 1 = some (.int x1) → mLd L 2 = some (.ref 172) → mLd L 3 = some (.int x3) → x3.toInt = (j : Int) → Sh M → CLG 152 153 F fc n0 LT CB CE sk M → j + k1 = n0 → En n d 64 2 L [] M r M1 → ∃ b : Bool, r = some (.int (b2 b)) ∧ GRl LT lt (EVc F fc CB CE) k1 j b ∧ Sh M1 ∧ FrA 152 157 M M1 := by
  intro n
  induction n with
  | zero => intro d L M r M1 x3 j k1 _ _ _ _ _ _ _ _ h; exact (En.zero (mi := 64) (pc := 2) (len := 1) rfl h).elim
  | succ n ih =>
    intro d L M r M1 x3 j k1 l0 l1 l2 l3 h3 hS hG hjk h
    obtain ⟨n5, n12, _⟩ := id hG
    replace h := eIloadS (mi := 64) (pc := 2) (len := 1) (i := 3) rfl l3 h
    replace h := eAload (mi := 64) (pc := 3) (len := 1) (i := 0) rfl l0 h
    replace h := eGetI (a := 152) (j := 405) hS (by decide) (by decide) rfl (mi := 64) (pc := 4) (len := 3) rfl h
    rcases eIc (mi := 64) (pc := 7) (len := 3) (t := 42) rfl rfl h with ⟨c1, h⟩ | ⟨c1, h⟩
    · replace c1 : ¬ x3.toInt < (iv M 152 5).toInt := mC_ge.1 c1
      replace h := eConst (mi := 64) (pc := 42) (len := 1) (v := 0) rfl h
      obtain ⟨e1, e2⟩ := eRetI (mi := 64) (pc := 43) (len := 1) rfl h
      rw [e2]
      have k00 : k1 = 0 := by omega
      subst k00
      exact ⟨false, e1, rfl, hS, FrA.rf⟩
    · replace c1 : x3.toInt < (iv M 152 5).toInt := mC_ge.2 c1
      obtain ⟨k0, rfl⟩ : ∃ q, k1 = q + 1 := ⟨k1 - 1, by omega⟩
      obtain ⟨g1, g2, hRS, ty, hPT⟩ := hG.2.2 j (by omega)
      have ix : x3.toInt.toNat = j := by omega
      have g1 : (iv M 154 x3.toInt.toNat).toInt = LT j := by rw [ix]; exact g1
      have g2 : (iv M 155 x3.toInt.toNat).toInt = (CB j : Int) + sk j := by rw [ix]; exact g2
      replace h := eAload (mi := 64) (pc := 10) (len := 1) (i := 0) rfl l0 h
      replace h := eGetR (a := 152) (j := 402) (g := 154) hS (by decide) (by decide) rfl rfl rfl (mi := 64) (pc := 11) (len := 3) rfl h
      replace h := eIload (mi := 64) (pc := 14) (len := 1) (i := 3) rfl l3 h
      obtain ⟨b2, h⟩ := eIald (x := x3) hS (a := 154) (by decide) (by decide) rfl (mi := 64) (pc := 15) (len := 1) rfl h
      replace h := eIload (mi := 64) (pc := 16) (len := 1) (i := 1) rfl l1 h
      rcases eIc (mi := 64) (pc := 17) (len := 3) (t := 36) rfl rfl h with ⟨c3, h⟩ | ⟨c3, h⟩
      · replace c3 : ¬ (iv M 154 x3.toInt.toNat).toInt = x1.toInt := mC_ne.1 c3
        rw [g1, h1] at c3
        replace h := eIinc (mi := 64) (pc := 36) (len := 3) (i := 3) (k := 1) rfl l3 (by decide) h
        replace h := eGoto (mi := 64) (pc := 39) (len := 3) (t := 2) rfl rfl h
        obtain ⟨b, z1, z2, z3, z4⟩ := ih _ _ _ _ _ _ (j + 1) k0 (mLd_st1_ref (by decide) l0) (mLd_st1_int (by decide) l1) (mLd_st1_ref (by decide) l2) mLd_st1_i ((ic1 h3 (by omega) (by omega)).trans (by omega)) hS hG (by omega) h
        exact ⟨b, z1, Or.inl ⟨fun q => c3 (by rw [q]), z2⟩, z3, z4⟩
      · replace c3 : (iv M 154 x3.toInt.toNat).toInt = x1.toInt := mC_ne.2 c3
        rw [g1, h1] at c3
        replace h := eAload (mi := 64) (pc := 20) (len := 1) (i := 0) rfl l0 h
        replace h := eAload (mi := 64) (pc := 21) (len := 1) (i := 0) rfl l0 h
        replace h := eGetR (a := 152) (j := 403) (g := 155) hS (by decide) (by decide) rfl rfl rfl (mi := 64) (pc := 22) (len := 3) rfl h
        replace h := eIload (mi := 64) (pc := 25) (len := 1) (i := 3) rfl l3 h
        obtain ⟨b4, h⟩ := eIald (x := x3) hS (a := 155) (by decide) (by decide) rfl (mi := 64) (pc := 26) (len := 1) rfl h
        replace h := eAload (mi := 64) (pc := 27) (len := 1) (i := 2) rfl l2 h
        obtain ⟨r5, N6, g7, h⟩ := eCall (mi := 64) (pc := 28) (len := 3) (j := 66) (as := [.ref 152, .int (iv M 155 x3.toInt.toNat), .ref 172]) (rest := []) rfl (Or.inr (Or.inl rfl)) (by decide) rfl rfl h
        obtain ⟨k, v, w1, w2, w3, w4⟩ := run152_en hPT.1 (Or.inr hPT.2.2.2) hPT.2.2.1 hPT.2.1 g2 hS hRS g7
        have v01 := ev_01 hPT.1 hPT.2.2.2 (Nat.le_refl _) hPT.2.1 (TI.mk (by rw [hPT.2.2.1]; decide) hPT.2.2.1.symm) w1
        rw [w2] at h
        rcases eIf (mi := 64) (pc := 31) (len := 3) (t := 36) rfl rfl h with ⟨c8, h⟩ | ⟨c8, h⟩
        · replace c8 : v.toInt = 0 := mC_eq.1 c8
          replace h := eIinc (mi := 64) (pc := 36) (len := 3) (i := 3) (k := 1) rfl l3 (by decide) h
          replace h := eGoto (mi := 64) (pc := 39) (len := 3) (t := 2) rfl rfl h
          obtain ⟨b, z1, z2, z3, z4⟩ := ih _ _ _ _ _ _ (j + 1) k0 (mLd_st1_ref (by decide) l0) (mLd_st1_int (by decide) l1) (mLd_st1_ref (by decide) l2) mLd_st1_i ((ic1 h3 (by omega) (by omega)).trans (by omega)) w3 (hG.fr w4 (show 153 ≠ 152 ∧ 153 ≠ 157 ∧ 152 ≠ 157 ∧ 172 ≠ 152 ∧ 172 ≠ 157 by decide) (show 152 + 2 ≠ 157 ∧ 152 + 3 ≠ 157 by decide)) (by omega) h
          exact ⟨b, z1, Or.inr ⟨c3, v, ⟨k, w1⟩, Or.inr ⟨i0_of c8, z2⟩⟩, z3, w4.tr z4⟩
        · replace c8 : ¬ v.toInt = 0 := mC_eq.2 c8
          replace h := eConst (mi := 64) (pc := 34) (len := 1) (v := 1) rfl h
          obtain ⟨e1, e2⟩ := eRetI (mi := 64) (pc := 35) (len := 1) rfl h
          rw [e2]
          exact ⟨true, e1, Or.inr ⟨c3, v, ⟨k, w1⟩, Or.inl ⟨fun q => c8 (by rw [q]; rfl), rfl⟩⟩, w3, w4⟩
theorem gr152_en {F : Nat → Int} {fc : Nat → Int32} {n0 : Nat} {LT : Nat → Int} {CB CE : Nat → Nat} {sk : Nat → Int} {x1 : Int32} {lt : Int} (h1 : x1.toInt = lt) {n d : Nat} {M : Mem} {r : Option Value} {M1 : Mem} (hS : Sh M) (hG : CLG 152 153 F fc n0 LT CB CE sk M) (h : En n d 64 0 (lv_args 0 [.ref 152, .int x1, .ref 172]) [] M r M1) : ∃ b : Bool, r = some (.int (b2 b)) ∧ GRl LT lt (EVc F fc CB CE) n0 0 b ∧ Sh M1 ∧ FrA 152 157 M M1 := by
  replace h := eConst (mi := 64) (pc := 0) (len := 1) (v := 0) rfl h
  replace h := eIstore (mi := 64) (pc := 1) (len := 1) (i := 3) rfl (by decide) h
  exact gr152_lp h1 _ _ _ _ _ _ _ 0 n0 rfl rfl rfl rfl rfl hS hG (by omega) h
theorem gr158_lp {F : Nat → Int} {fc : Nat → Int32} {n0 : Nat} {LT : Nat → Int} {CB CE : Nat → Nat} {sk : Nat → Int} {x1 : Int32} {lt : Int} (h1 : x1.toInt = lt) : ∀ (n d : Nat) (L : MLoc) (M : Mem) (r : Option Value) (M1 : Mem) (x3 : Int32) (j k1 : Nat), mLd L 0 = some (.ref 158) → mLd L 1 = some (.int x1) → mLd L 2 = some (.ref 172) → mLd L 3 = some (.int x3) → x3.toInt = (j : Int) → Sh M → CLG 158 159 F fc n0 LT CB CE sk M → j + k1 = n0 → En n d 64 2 L [] M r M1 → ∃ b : Bool, r = some (.int (b2 b)) ∧ GRl LT lt (EVc F fc CB CE) k1 j b ∧ Sh M1 ∧ FrA 158 163 M M1 := by
  intro n
  induction n with
  | zero => intro d L M r M1 x3 j k1 _ _ _ _ _ _ _ _ h; exact (En.zero (mi := 64) (pc := 2) (len := 1) rfl h).elim
  | succ n ih =>
    intro d L M r M1 x3 j k1 l0 l1 l2 l3 h3 hS hG hjk h
    obtain ⟨n5, n12, _⟩ := id hG
    replace h := eIloadS (mi := 64) (pc := 2) (len := 1) (i := 3) rfl l3 h
    replace h := eAload (mi := 64) (pc := 3) (len := 1) (i := 0) rfl l0 h
    replace h := eGetI (a := 158) (j := 405) hS (by decide) (by decide) rfl (mi := 64) (pc := 4) (len := 3) rfl h
    rcases eIc (mi := 64) (pc := 7) (len := 3) (t := 42) rfl rfl h with ⟨c1, h⟩ | ⟨c1, h⟩
    · replace c1 : ¬ x3.toInt < (iv M 158 5).toInt := mC_ge.1 c1
      replace h := eConst (mi := 64) (pc := 42) (len := 1) (v := 0) rfl h
      obtain ⟨e1, e2⟩ := eRetI (mi := 64) (pc := 43) (len := 1) rfl h
      rw [e2]
      have k00 : k1 = 0 := by omega
      subst k00
      exact ⟨false, e1, rfl, hS, FrA.rf⟩
    · replace c1 : x3.toInt < (iv M 158 5).toInt := mC_ge.2 c1
      obtain ⟨k0, rfl⟩ : ∃ q, k1 = q + 1 := ⟨k1 - 1, by omega⟩
      obtain ⟨g1, g2, hRS, ty, hPT⟩ := hG.2.2 j (by omega)
      have ix : x3.toInt.toNat = j := by omega
      have g1 : (iv M 160 x3.toInt.toNat).toInt = LT j := by rw [ix]; exact g1
      have g2 : (iv M 161 x3.toInt.toNat).toInt = (CB j : Int) + sk j := by rw [ix]; exact g2
      replace h := eAload (mi := 64) (pc := 10) (len := 1) (i := 0) rfl l0 h
      replace h := eGetR (a := 158) (j := 402) (g := 160) hS (by decide) (by decide) rfl rfl rfl (mi := 64) (pc := 11) (len := 3) rfl h
      replace h := eIload (mi := 64) (pc := 14) (len := 1) (i := 3) rfl l3 h
      obtain ⟨b2, h⟩ := eIald (x := x3) hS (a := 160) (by decide) (by decide) rfl (mi := 64) (pc := 15) (len := 1) rfl h
      replace h := eIload (mi := 64) (pc := 16) (len := 1) (i := 1) rfl l1 h
      rcases eIc (mi := 64) (pc := 17) (len := 3) (t := 36) rfl rfl h with ⟨c3, h⟩ | ⟨c3, h⟩
      · replace c3 : ¬ (iv M 160 x3.toInt.toNat).toInt = x1.toInt := mC_ne.1 c3
        rw [g1, h1] at c3
        replace h := eIinc (mi := 64) (pc := 36) (len := 3) (i := 3) (k := 1) rfl l3 (by decide) h
        replace h := eGoto (mi := 64) (pc := 39) (len := 3) (t := 2) rfl rfl h
        obtain ⟨b, z1, z2, z3, z4⟩ := ih _ _ _ _ _ _ (j + 1) k0 (mLd_st1_ref (by decide) l0) (mLd_st1_int (by decide) l1) (mLd_st1_ref (by decide) l2) mLd_st1_i ((ic1 h3 (by omega) (by omega)).trans (by omega)) hS hG (by omega) h
        exact ⟨b, z1, Or.inl ⟨fun q => c3 (by rw [q]), z2⟩, z3, z4⟩
      · replace c3 : (iv M 160 x3.toInt.toNat).toInt = x1.toInt := mC_ne.2 c3
        rw [g1, h1] at c3
        replace h := eAload (mi := 64) (pc := 20) (len := 1) (i := 0) rfl l0 h
        replace h := eAload (mi := 64) (pc := 21) (len := 1) (i := 0) rfl l0 h
        replace h := eGetR (a := 158) (j := 403) (g := 161) hS (by decide) (by decide) rfl rfl rfl (mi := 64) (pc := 22) (len := 3) rfl h
        replace h := eIload (mi := 64) (pc := 25) (len := 1) (i := 3) rfl l3 h
        obtain ⟨b4, h⟩ := eIald (x := x3) hS (a := 161) (by decide) (by decide) rfl (mi := 64) (pc := 26) (len := 1) rfl h
        replace h := eAload (mi := 64) (pc := 27) (len := 1) (i := 2) rfl l2 h
        obtain ⟨r5, N6, g7, h⟩ := eCall (mi := 64) (pc := 28) (len := 3) (j := 66) (as := [.ref 158, .int (iv M 161 x3.toInt.toNat), .ref 172]) (rest := []) rfl (Or.inr (Or.inl rfl)) (by decide) rfl rfl h
        obtain ⟨k, v, w1, w2, w3, w4⟩ := run158_en hPT.1 (Or.inr hPT.2.2.2) hPT.2.2.1 hPT.2.1 g2 hS hRS g7
        have v01 := ev_01 hPT.1 hPT.2.2.2 (Nat.le_refl _) hPT.2.1 (TI.mk (by rw [hPT.2.2.1]; decide) hPT.2.2.1.symm) w1
        rw [w2] at h
        rcases eIf (mi := 64) (pc := 31) (len := 3) (t := 36) rfl rfl h with ⟨c8, h⟩ | ⟨c8, h⟩
        · replace c8 : v.toInt = 0 := mC_eq.1 c8
          replace h := eIinc (mi := 64) (pc := 36) (len := 3) (i := 3) (k := 1) rfl l3 (by decide) h
          replace h := eGoto (mi := 64) (pc := 39) (len := 3) (t := 2) rfl rfl h
          obtain ⟨b, z1, z2, z3, z4⟩ := ih _ _ _ _ _ _ (j + 1) k0 (mLd_st1_ref (by decide) l0) (mLd_st1_int (by decide) l1) (mLd_st1_ref (by decide) l2) mLd_st1_i ((ic1 h3 (by omega) (by omega)).trans (by omega)) w3 (hG.fr w4 (show 159 ≠ 158 ∧ 159 ≠ 163 ∧ 158 ≠ 163 ∧ 172 ≠ 158 ∧ 172 ≠ 163 by decide) (show 158 + 2 ≠ 163 ∧ 158 + 3 ≠ 163 by decide)) (by omega) h
          exact ⟨b, z1, Or.inr ⟨c3, v, ⟨k, w1⟩, Or.inr ⟨i0_of c8, z2⟩⟩, z3, w4.tr z4⟩
        · replace c8 : ¬ v.toInt = 0 := mC_eq.2 c8
          replace h := eConst (mi := 64) (pc := 34) (len := 1) (v := 1) rfl h
          obtain ⟨e1, e2⟩ := eRetI (mi := 64) (pc := 35) (len := 1) rfl h
          rw [e2]
          exact ⟨true, e1, Or.inr ⟨c3, v, ⟨k, w1⟩, Or.inl ⟨fun q => c8 (by rw [q]; rfl), rfl⟩⟩, w3, w4⟩
theorem gr158_en {F : Nat → Int} {fc : Nat → Int32} {n0 : Nat} {LT : Nat → Int} {CB CE : Nat → Nat} {sk : Nat → Int} {x1 : Int32} {lt : Int} (h1 : x1.toInt = lt) {n d : Nat} {M : Mem} {r : Option Value} {M1 : Mem} (hS : Sh M) (hG : CLG 158 159 F fc n0 LT CB CE sk M) (h : En n d 64 0 (lv_args 0 [.ref 158, .int x1, .ref 172]) [] M r M1) : ∃ b : Bool, r = some (.int (b2 b)) ∧ GRl LT lt (EVc F fc CB CE) n0 0 b ∧ Sh M1 ∧ FrA 158 163 M M1 := by
  replace h := eConst (mi := 64) (pc := 0) (len := 1) (v := 0) rfl h
  replace h := eIstore (mi := 64) (pc := 1) (len := 1) (i := 3) rfl (by decide) h
  exact gr158_lp h1 _ _ _ _ _ _ _ 0 n0 rfl rfl rfl rfl rfl hS hG (by omega) h
theorem gr164_lp {F : Nat → Int} {fc : Nat → Int32} {n0 : Nat} {LT : Nat → Int} {CB CE : Nat → Nat} {sk : Nat → Int} {x1 : Int32} {lt : Int} (h1 : x1.toInt = lt) : ∀ (n d : Nat) (L : MLoc) (M : Mem) (r : Option Value) (M1 : Mem) (x3 : Int32) (j k1 : Nat), mLd L 0 = some (.ref 164) → mLd L 1 = some (.int x1) → mLd L 2 = some (.ref 172) → mLd L 3 = some (.int x3) → x3.toInt = (j : Int) → Sh M → CLG 164 165 F fc n0 LT CB CE sk M → j + k1 = n0 → En n d 64 2 L [] M r M1 → ∃ b : Bool, r = some (.int (b2 b)) ∧ GRl LT lt (EVc F fc CB CE) k1 j b ∧ Sh M1 ∧ FrA 164 169 M M1 := by
  intro n
  induction n with
  | zero => intro d L M r M1 x3 j k1 _ _ _ _ _ _ _ _ h; exact (En.zero (mi := 64) (pc := 2) (len := 1) rfl h).elim
  | succ n ih =>
    intro d L M r M1 x3 j k1 l0 l1 l2 l3 h3 hS hG hjk h
    obtain ⟨n5, n12, _⟩ := id hG
    replace h := eIloadS (mi := 64) (pc := 2) (len := 1) (i := 3) rfl l3 h
    replace h := eAload (mi := 64) (pc := 3) (len := 1) (i := 0) rfl l0 h
    replace h := eGetI (a := 164) (j := 405) hS (by decide) (by decide) rfl (mi := 64) (pc := 4) (len := 3) rfl h
    rcases eIc (mi := 64) (pc := 7) (len := 3) (t := 42) rfl rfl h with ⟨c1, h⟩ | ⟨c1, h⟩
    · replace c1 : ¬ x3.toInt < (iv M 164 5).toInt := mC_ge.1 c1
      replace h := eConst (mi := 64) (pc := 42) (len := 1) (v := 0) rfl h
      obtain ⟨e1, e2⟩ := eRetI (mi := 64) (pc := 43) (len := 1) rfl h
      rw [e2]
      have k00 : k1 = 0 := by omega
      subst k00
      exact ⟨false, e1, rfl, hS, FrA.rf⟩
    · replace c1 : x3.toInt < (iv M 164 5).toInt := mC_ge.2 c1
      obtain ⟨k0, rfl⟩ : ∃ q, k1 = q + 1 := ⟨k1 - 1, by omega⟩
      obtain ⟨g1, g2, hRS, ty, hPT⟩ := hG.2.2 j (by omega)
      have ix : x3.toInt.toNat = j := by omega
      have g1 : (iv M 166 x3.toInt.toNat).toInt = LT j := by rw [ix]; exact g1
      have g2 : (iv M 167 x3.toInt.toNat).toInt = (CB j : Int) + sk j := by rw [ix]; exact g2
      replace h := eAload (mi := 64) (pc := 10) (len := 1) (i := 0) rfl l0 h
      replace h := eGetR (a := 164) (j := 402) (g := 166) hS (by decide) (by decide) rfl rfl rfl (mi := 64) (pc := 11) (len := 3) rfl h
      replace h := eIload (mi := 64) (pc := 14) (len := 1) (i := 3) rfl l3 h
      obtain ⟨b2, h⟩ := eIald (x := x3) hS (a := 166) (by decide) (by decide) rfl (mi := 64) (pc := 15) (len := 1) rfl h
      replace h := eIload (mi := 64) (pc := 16) (len := 1) (i := 1) rfl l1 h
      rcases eIc (mi := 64) (pc := 17) (len := 3) (t := 36) rfl rfl h with ⟨c3, h⟩ | ⟨c3, h⟩
      · replace c3 : ¬ (iv M 166 x3.toInt.toNat).toInt = x1.toInt := mC_ne.1 c3
        rw [g1, h1] at c3
        replace h := eIinc (mi := 64) (pc := 36) (len := 3) (i := 3) (k := 1) rfl l3 (by decide) h
        replace h := eGoto (mi := 64) (pc := 39) (len := 3) (t := 2) rfl rfl h
        obtain ⟨b, z1, z2, z3, z4⟩ := ih _ _ _ _ _ _ (j + 1) k0 (mLd_st1_ref (by decide) l0) (mLd_st1_int (by decide) l1) (mLd_st1_ref (by decide) l2) mLd_st1_i ((ic1 h3 (by omega) (by omega)).trans (by omega)) hS hG (by omega) h
        exact ⟨b, z1, Or.inl ⟨fun q => c3 (by rw [q]), z2⟩, z3, z4⟩
      · replace c3 : (iv M 166 x3.toInt.toNat).toInt = x1.toInt := mC_ne.2 c3
        rw [g1, h1] at c3
        replace h := eAload (mi := 64) (pc := 20) (len := 1) (i := 0) rfl l0 h
        replace h := eAload (mi := 64) (pc := 21) (len := 1) (i := 0) rfl l0 h
        replace h := eGetR (a := 164) (j := 403) (g := 167) hS (by decide) (by decide) rfl rfl rfl (mi := 64) (pc := 22) (len := 3) rfl h
        replace h := eIload (mi := 64) (pc := 25) (len := 1) (i := 3) rfl l3 h
        obtain ⟨b4, h⟩ := eIald (x := x3) hS (a := 167) (by decide) (by decide) rfl (mi := 64) (pc := 26) (len := 1) rfl h
        replace h := eAload (mi := 64) (pc := 27) (len := 1) (i := 2) rfl l2 h
        obtain ⟨r5, N6, g7, h⟩ := eCall (mi := 64) (pc := 28) (len := 3) (j := 66) (as := [.ref 164, .int (iv M 167 x3.toInt.toNat), .ref 172]) (rest := []) rfl (Or.inr (Or.inl rfl)) (by decide) rfl rfl h
        obtain ⟨k, v, w1, w2, w3, w4⟩ := run164_en hPT.1 (Or.inr hPT.2.2.2) hPT.2.2.1 hPT.2.1 g2 hS hRS g7
        have v01 := ev_01 hPT.1 hPT.2.2.2 (Nat.le_refl _) hPT.2.1 (TI.mk (by rw [hPT.2.2.1]; decide) hPT.2.2.1.symm) w1
        rw [w2] at h
        rcases eIf (mi := 64) (pc := 31) (len := 3) (t := 36) rfl rfl h with ⟨c8, h⟩ | ⟨c8, h⟩
        · replace c8 : v.toInt = 0 := mC_eq.1 c8
          replace h := eIinc (mi := 64) (pc := 36) (len := 3) (i := 3) (k := 1) rfl l3 (by decide) h
          replace h := eGoto (mi := 64) (pc := 39) (len := 3) (t := 2) rfl rfl h
          obtain ⟨b, z1, z2, z3, z4⟩ := ih _ _ _ _ _ _ (j + 1) k0 (mLd_st1_ref (by decide) l0) (mLd_st1_int (by decide) l1) (mLd_st1_ref (by decide) l2) mLd_st1_i ((ic1 h3 (by omega) (by omega)).trans (by omega)) w3 (hG.fr w4 (show 165 ≠ 164 ∧ 165 ≠ 169 ∧ 164 ≠ 169 ∧ 172 ≠ 164 ∧ 172 ≠ 169 by decide) (show 164 + 2 ≠ 169 ∧ 164 + 3 ≠ 169 by decide)) (by omega) h
          exact ⟨b, z1, Or.inr ⟨c3, v, ⟨k, w1⟩, Or.inr ⟨i0_of c8, z2⟩⟩, z3, w4.tr z4⟩
        · replace c8 : ¬ v.toInt = 0 := mC_eq.2 c8
          replace h := eConst (mi := 64) (pc := 34) (len := 1) (v := 1) rfl h
          obtain ⟨e1, e2⟩ := eRetI (mi := 64) (pc := 35) (len := 1) rfl h
          rw [e2]
          exact ⟨true, e1, Or.inr ⟨c3, v, ⟨k, w1⟩, Or.inl ⟨fun q => c8 (by rw [q]; rfl), rfl⟩⟩, w3, w4⟩
theorem gr164_en {F : Nat → Int} {fc : Nat → Int32} {n0 : Nat} {LT : Nat → Int} {CB CE : Nat → Nat} {sk : Nat → Int} {x1 : Int32} {lt : Int} (h1 : x1.toInt = lt) {n d : Nat} {M : Mem} {r : Option Value} {M1 : Mem} (hS : Sh M) (hG : CLG 164 165 F fc n0 LT CB CE sk M) (h : En n d 64 0 (lv_args 0 [.ref 164, .int x1, .ref 172]) [] M r M1) : ∃ b : Bool, r = some (.int (b2 b)) ∧ GRl LT lt (EVc F fc CB CE) n0 0 b ∧ Sh M1 ∧ FrA 164 169 M M1 := by
  replace h := eConst (mi := 64) (pc := 0) (len := 1) (v := 0) rfl h
  replace h := eIstore (mi := 64) (pc := 1) (len := 1) (i := 3) rfl (by decide) h
  exact gr164_lp h1 _ _ _ _ _ _ _ 0 n0 rfl rfl rfl rfl rfl hS hG (by omega) h
/-- as the reference keeps them -/
def RG2 (q : Nat) (F : Nat → Int) (fc : Nat → Int32) (n : Nat) (LT : Nat → Int) (CB CE : Nat → Nat) (M : Mem) : Prop := (iv M 210 q).toInt = (n : Int) ∧ n ≤ 12 ∧ q < 3 ∧ ∀ j, j < n → (iv M 211 (12 * q + j)).toInt = LT j ∧ (iv M 213 (12 * q + j)).toInt = 180 * (q : Int) + (CB j : Int) ∧ (iv M 214 (12 * q + j)).toInt = 180 * (q : Int) + (CE j : Int) ∧ CB j < 180 ∧ RP q F fc (CB j) (CE j) M ∧ ∃ ty, PT F ty (CB j) (CE j) (-1)
theorem RG2.fr {q : Nat} {F : Nat → Int} {fc : Nat → Int32} {n : Nat} {LT : Nat → Int} {CB CE : Nat → Nat} {M N : Mem} (h : RG2 q F fc n LT CB CE M) (f : FrR M N) : RG2 q F fc n LT CB CE N := by
  obtain ⟨h1, h2, h4, h3⟩ := h
  refine ⟨by rw [f.si (by decide)]; exact h1, h2, h4, fun j hj => ?_⟩
  obtain ⟨a, b, c, e, g, d⟩ := h3 j hj
  exact ⟨by rw [f.si (by decide)]; exact a, by rw [f.si (by decide)]; exact b, by rw [f.si (by decide)]; exact c, e, g.fr f, d⟩
theorem any_lp {F : Nat → Int} {fc : Nat → Int32} {n0 q : Nat} {LT : Nat → Int} {CB CE : Nat → Nat} {x1 x2 : Int32} {lt : Int} (h1 : x1.toInt = (q : Int)) (h2 : x2.toInt = lt) : ∀ (n d : Nat) (L : MLoc) (M : Mem) (r : Option Value) (M1 : Mem) (x3 : Int32) (j k1 : Nat), mLd L 0 = some (.ref 181) → mLd L 1 = some (.int x1) → mLd L 2 = some (.int x2) → mLd L 3 = some (.int x3) → x3.toInt = 12 * (q : Int) + (j : Int) → Sh M → RG2 q F fc n0 LT CB CE M → j + k1 = n0 → En n d 215 5 L [] M r M1 → ∃ b : Bool, r = some (.int (b2 b)) ∧ GRl LT lt (EVc F fc CB CE) k1 j b ∧ Sh M1 ∧ FrR M M1 := by
  intro n
  induction n with
  | zero => intro d L M r M1 x3 j k1 _ _ _ _ _ _ _ _ h; exact (En.zero (mi := 215) (pc := 5) (len := 1) rfl h).elim
  | succ n ih =>
    intro d L M r M1 x3 j k1 l0 l1 l2 l3 h3 hS hG hjk h
    obtain ⟨n5, n12, q3, _⟩ := id hG
    have e12 : (12 : Int32).toInt = 12 := rfl
    have iq : x1.toInt.toNat = q := by omega
    have hmu : ((12 : Int32) * x1).toInt = 12 * (q : Int) := by rw [i32_mul (by rw [e12]; omega) (by rw [e12]; omega), e12, h1]
    have hlim : ((12 : Int32) * x1 + (iv M 210 x1.toInt.toNat)).toInt = 12 * (q : Int) + (n0 : Int) := by rw [iq, i32_add (by omega) (by omega), hmu, n5]
    replace h := eIloadS (mi := 215) (pc := 5) (len := 1) (i := 3) rfl l3 h
    replace h := eConst (mi := 215) (pc := 6) (len := 2) (v := 12) rfl h
    replace h := eIload (mi := 215) (pc := 8) (len := 1) (i := 1) rfl l1 h
    replace h := eMul (mi := 215) (pc := 9) (len := 1) rfl h
    replace h := eAload (mi := 215) (pc := 10) (len := 1) (i := 0) rfl l0 h
    replace h := eGetR (a := 181) (j := 1141) (g := 210) hS (by decide) (by decide) rfl rfl rfl (mi := 215) (pc := 11) (len := 3) rfl h
    replace h := eIload (mi := 215) (pc := 14) (len := 1) (i := 1) rfl l1 h
    obtain ⟨b1, h⟩ := eIald (x := x1) hS (a := 210) (by decide) (by decide) rfl (mi := 215) (pc := 15) (len := 1) rfl h
    replace h := eAdd (mi := 215) (pc := 16) (len := 1) rfl h
    rcases eIc (mi := 215) (pc := 17) (len := 3) (t := 58) rfl rfl h with ⟨c2, h⟩ | ⟨c2, h⟩
    · replace c2 : ¬ x3.toInt < (((12 : Int32) * x1) + (iv M 210 x1.toInt.toNat)).toInt := mC_ge.1 c2
      replace h := eConst (mi := 215) (pc := 58) (len := 1) (v := 0) rfl h
      obtain ⟨e1, e2⟩ := eRetI (mi := 215) (pc := 59) (len := 1) rfl h
      rw [e2]
      have k00 : k1 = 0 := by rw [hlim] at c2; omega
      subst k00
      exact ⟨false, e1, rfl, hS, FrR.rf⟩
    · replace c2 : x3.toInt < (((12 : Int32) * x1) + (iv M 210 x1.toInt.toNat)).toInt := mC_ge.2 c2
      obtain ⟨k0, rfl⟩ : ∃ q, k1 = q + 1 := ⟨k1 - 1, by rw [hlim] at c2; omega⟩
      obtain ⟨g1, g2, g3, g180, hRP, ty, hPT⟩ := hG.2.2.2 j (by omega)
      have ix : x3.toInt.toNat = 12 * q + j := by omega
      rw [← ix] at g1
      rw [← ix] at g2
      rw [← ix] at g3
      have gg := g2
      replace h := eAload (mi := 215) (pc := 20) (len := 1) (i := 0) rfl l0 h
      replace h := eGetR (a := 181) (j := 1142) (g := 211) hS (by decide) (by decide) rfl rfl rfl (mi := 215) (pc := 21) (len := 3) rfl h
      replace h := eIload (mi := 215) (pc := 24) (len := 1) (i := 3) rfl l3 h
      obtain ⟨b3, h⟩ := eIald (x := x3) hS (a := 211) (by decide) (by decide) rfl (mi := 215) (pc := 25) (len := 1) rfl h
      replace h := eIload (mi := 215) (pc := 26) (len := 1) (i := 2) rfl l2 h
      rcases eIc (mi := 215) (pc := 27) (len := 3) (t := 52) rfl rfl h with ⟨c4, h⟩ | ⟨c4, h⟩
      · replace c4 : ¬ (iv M 211 x3.toInt.toNat).toInt = x2.toInt := mC_ne.1 c4
        rw [g1, h2] at c4
        replace h := eIinc (mi := 215) (pc := 52) (len := 3) (i := 3) (k := 1) rfl l3 (by decide) h
        replace h := eGoto (mi := 215) (pc := 55) (len := 3) (t := 5) rfl rfl h
        obtain ⟨b, z1, z2, z3, z4⟩ := ih _ _ _ _ _ _ (j + 1) k0 (mLd_st1_ref (by decide) l0) (mLd_st1_int (by decide) l1) (mLd_st1_int (by decide) l2) mLd_st1_i ((ic1 h3 (by omega) (by omega)).trans (by omega)) hS hG (by omega) h
        exact ⟨b, z1, Or.inl ⟨fun q => c4 (by rw [q]), z2⟩, z3, z4⟩
      · replace c4 : (iv M 211 x3.toInt.toNat).toInt = x2.toInt := mC_ne.2 c4
        rw [g1, h2] at c4
        replace h := eAload (mi := 215) (pc := 30) (len := 1) (i := 0) rfl l0 h
        replace h := eAload (mi := 215) (pc := 31) (len := 1) (i := 0) rfl l0 h
        replace h := eGetR (a := 181) (j := 1144) (g := 213) hS (by decide) (by decide) rfl rfl rfl (mi := 215) (pc := 32) (len := 3) rfl h
        replace h := eIload (mi := 215) (pc := 35) (len := 1) (i := 3) rfl l3 h
        obtain ⟨b5, h⟩ := eIald (x := x3) hS (a := 213) (by decide) (by decide) rfl (mi := 215) (pc := 36) (len := 1) rfl h
        replace h := eAload (mi := 215) (pc := 37) (len := 1) (i := 0) rfl l0 h
        replace h := eGetR (a := 181) (j := 1145) (g := 214) hS (by decide) (by decide) rfl rfl rfl (mi := 215) (pc := 38) (len := 3) rfl h
        replace h := eIload (mi := 215) (pc := 41) (len := 1) (i := 3) rfl l3 h
        obtain ⟨b6, h⟩ := eIald (x := x3) hS (a := 214) (by decide) (by decide) rfl (mi := 215) (pc := 42) (len := 1) rfl h
        obtain ⟨r7, N8, g9, h⟩ := eCall (mi := 215) (pc := 43) (len := 3) (j := 214) (as := [.ref 181, .int (iv M 213 x3.toInt.toNat), .int (iv M 214 x3.toInt.toNat)]) (rest := []) rfl (Or.inr (Or.inl rfl)) (by decide) rfl rfl h
        obtain ⟨k, v, w1, w2, w3, w4⟩ := cmt_en hPT.1 (Or.inr hPT.2.2.2) hPT.2.2.1 hPT.2.1 g180 g2 g3 hS hRP g9
        have v01 := ev_01 hPT.1 hPT.2.2.2 (Nat.le_refl _) hPT.2.1 (TI.mk (by rw [hPT.2.2.1]; decide) hPT.2.2.1.symm) w1
        rw [w2] at h
        replace h := eConst (mi := 215) (pc := 46) (len := 1) (v := 1) rfl h
        rcases eIc (mi := 215) (pc := 47) (len := 3) (t := 52) rfl rfl h with ⟨c10, h⟩ | ⟨c10, h⟩
        · replace c10 : ¬ v.toInt = 1 := mC_ne.1 c10
          replace h := eIinc (mi := 215) (pc := 52) (len := 3) (i := 3) (k := 1) rfl l3 (by decide) h
          replace h := eGoto (mi := 215) (pc := 55) (len := 3) (t := 5) rfl rfl h
          obtain ⟨b, z1, z2, z3, z4⟩ := ih _ _ _ _ _ _ (j + 1) k0 (mLd_st1_ref (by decide) l0) (mLd_st1_int (by decide) l1) (mLd_st1_int (by decide) l2) mLd_st1_i ((ic1 h3 (by omega) (by omega)).trans (by omega)) w3 (hG.fr w4) (by omega) h
          exact ⟨b, z1, Or.inr ⟨c4, v, ⟨k, w1⟩, Or.inr ⟨v01.resolve_right (fun q => c10 (by rw [q]; rfl)), z2⟩⟩, z3, w4.tr z4⟩
        · replace c10 : v.toInt = 1 := mC_ne.2 c10
          replace h := eConst (mi := 215) (pc := 50) (len := 1) (v := 1) rfl h
          obtain ⟨e1, e2⟩ := eRetI (mi := 215) (pc := 51) (len := 1) rfl h
          rw [e2]
          exact ⟨true, e1, Or.inr ⟨c4, v, ⟨k, w1⟩, Or.inl ⟨fun q => by rw [q] at c10; exact absurd c10 (by decide), rfl⟩⟩, w3, w4⟩
theorem any_en {F : Nat → Int} {fc : Nat → Int32} {n0 q : Nat} {LT : Nat → Int} {CB CE : Nat → Nat} {x1 x2 : Int32} {lt : Int} (h1 : x1.toInt = (q : Int)) (h2 : x2.toInt = lt) {n d : Nat} {M : Mem} {r : Option Value} {M1 : Mem} (hS : Sh M) (hG : RG2 q F fc n0 LT CB CE M) (h : En n d 215 0 (lv_args 0 [.ref 181, .int x1, .int x2]) [] M r M1) : ∃ b : Bool, r = some (.int (b2 b)) ∧ GRl LT lt (EVc F fc CB CE) n0 0 b ∧ Sh M1 ∧ FrR M M1 := by
  obtain ⟨_, _, q3, _⟩ := id hG
  replace h := eConst (mi := 215) (pc := 0) (len := 2) (v := 12) rfl h
  replace h := eIload (mi := 215) (pc := 2) (len := 1) (i := 1) rfl rfl h
  replace h := eMul (mi := 215) (pc := 3) (len := 1) rfl h
  replace h := eIstore (mi := 215) (pc := 4) (len := 1) (i := 3) rfl (by decide) h
  have e12 : (12 : Int32).toInt = 12 := rfl
  have hmu : ((12 : Int32) * x1).toInt = 12 * (q : Int) := by rw [i32_mul (by rw [e12]; omega) (by rw [e12]; omega), e12, h1]
  exact any_lp h1 h2 _ _ _ _ _ _ _ 0 n0 rfl rfl rfl rfl (hmu.trans (by omega)) hS hG (by omega) h

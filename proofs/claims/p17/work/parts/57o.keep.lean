/-! a law is kept: its codes and clauses are copied -/
def lwI (s : List Int32) (M0 : Mem) (L0 : MLoc) (x k j : Nat) (L : MLoc) (M : Mem) : Prop :=
  aTp s M ∧ aFr sg_lw2.2.2.2.2.2.2.1 M0 M ∧ (∀ c, c < 209 ∨ 214 < c → xv M c = xv M0 c) ∧ (∀ q, q ≠ 4 → mLd L q = mLd L0 q) ∧
  (mSlot M 181 30 = mSlot M0 181 30 ∧ mSlot M 181 32 = mSlot M0 181 32) ∧
  (xI (xv M) 210 x = xI (xv M0) 181 32 ∧ ∀ i, i ≠ x → xI (xv M) 210 i = xI (xv M0) 210 i) ∧
  (∀ t, t < k → xI (xv M) 209 (180 * x + t) = xI (xv M0) 203 t) ∧ (∀ t, t < 180 * x ∨ 180 * x + 180 ≤ t → xI (xv M) 209 t = xI (xv M0) 209 t) ∧
  (∀ t, t < j → xI (xv M) 211 (12 * x + t) = xI (xv M0) 205 t ∧ xI (xv M) 212 (12 * x + t) = 180 * (x : Int) + xI (xv M0) 206 t ∧ xI (xv M) 213 (12 * x + t) = 180 * (x : Int) + xI (xv M0) 207 t ∧ xI (xv M) 214 (12 * x + t) = 180 * (x : Int) + xI (xv M0) 208 t) ∧
  (∀ t, t < 12 * x ∨ 12 * x + 12 ≤ t → xI (xv M) 211 t = xI (xv M0) 211 t ∧ xI (xv M) 212 t = xI (xv M0) 212 t ∧ xI (xv M) 213 t = xI (xv M0) 213 t ∧ xI (xv M) 214 t = xI (xv M0) 214 t)
theorem xI_v {M M0 : Mem} {c : Nat} (h : xv M c = xv M0 c) : xI (xv M) c = xI (xv M0) c := by
  funext i
  unfold xI
  rw [h]
theorem xPr_c2 {f g : Nat → Int} {b a e : Nat} (hf : ∀ k, a ≤ k → k < e → g k = f k) (h : xPr f b a e) : xPr g b a e := by
  refine ⟨h.1, fun k h1 h2 => xOk_c (hf k h1 h2) ?_ (Nat.le_refl _) h1 h2 (fun _ t => t) (h.2 k h1 h2)⟩
  intro n hn
  exact xHg_c n (fun i hi => by rw [hf _ (by omega) (by omega)])
theorem xHg_s {f g : Nat → Int} {b a : Nat} : ∀ n, (∀ i, i < n → g (b + (a + i)) = f (a + i)) → xHg g (b + a) n = xHg f a n
  | 0, _ => rfl
  | n + 1, h => by
    unfold xHg
    rw [xHg_s n (fun i hi => h i (by omega)), Nat.add_assoc, h n (by omega)]
theorem xPr_shift {f g : Nat → Int} {b a e m : Nat} (hf : ∀ t, t < m → g (b + t) = f t) (he : e ≤ m) (h : xPr f 0 a e) : xPr g b (b + a) (b + e) := by
  have hh : ∀ n, n ≤ e - a → xHg g (b + a) n = xHg f a n := fun n hn => xHg_s n (fun i hi => hf _ (by omega))
  refine ⟨by have := h.1; omega, fun k h1 h2 => ?_⟩
  obtain ⟨t, rfl⟩ : ∃ t, k = b + t := ⟨k - b, by omega⟩
  obtain ⟨q0, q⟩ := h.2 t (by omega) (by omega)
  unfold xOk
  rw [hf t (by omega), show b + t - (b + a) = t - a by omega, hh (t - a) (by omega)]
  refine ⟨q0, ?_⟩
  rcases q with c | c | c | c | ⟨c1, c2, c3, c⟩
  · exact Or.inl c
  · exact Or.inr (Or.inl c)
  · exact Or.inr (Or.inr (Or.inl c))
  · exact Or.inr (Or.inr (Or.inr (Or.inl c)))
  · refine Or.inr (Or.inr (Or.inr (Or.inr ⟨c1, c2, c3, ?_⟩)))
    rcases c with ⟨d1, d2, d3⟩ | c
    · have hm : 0 ≤ f t % xU := Int.emod_nonneg _ (by decide)
      obtain ⟨r, hr⟩ : ∃ r : Int, r = f t % xU := ⟨_, rfl⟩
      rw [← hr] at d1 d2 d3 hm ⊢
      refine Or.inl ⟨by omega, by omega, ?_⟩
      rw [show b + r.toNat - (b + a) = 0 + r.toNat - a by omega, hh _ (by omega)]
      exact d3
    · exact c.elim
theorem xI_t {s : List Int32} {M : Mem} (hT : aTp s M) {c i : Nat} (h2 : 2 ≤ c) (h3 : c < tEnd) (hi : i < tSiz (tGrp c)) {lo hi' : Int} {gs : List Nat} (ht : tTy (tGrp c) i = (1, lo, hi', gs)) (hp : tPro0 (tGrp c) (aSlK c i) = true) : lo ≤ xI (xv M) c i ∧ xI (xv M) c i ≤ hi' := by
  obtain ⟨y, y1, y2, y3⟩ := hT.int h2 h3 hi ht
  rw [xI_at hp y1]
  exact ⟨y2, y3⟩
theorem lw_fin {s : List Int32} {γ : Gh} {M0 M : Mem} {L0 L : MLoc} {x m n : Nat} (hX : tXI γ M0) (hT : aTp s M0) (hx : x < 3) (hm : xI (xv M0) 181 30 = (m : Int)) (hm2 : m ≤ 178) (hn : xI (xv M0) 181 32 = (n : Int)) (hn2 : n ≤ 12) (h : lwI s M0 L0 x m n L M) : tXI (gUp (gUp (gUp (gUp (gUp (gUp (gUp (gUp (gUp γ 1005 2 (-1)) 1005 0 0) 1005 1 0) 1005 5 0) 1006 0 0) 1006 1 0) 1006 2 (-1)) 1006 5 (-1)) 1006 8 0) M := by
  obtain ⟨_, _, hv, _, _, ⟨c1, c2⟩, d1, d2, e1, e2⟩ := h
  obtain ⟨h2, h3, h4, ⟨q1, q2, q3, q4⟩, ⟨p1, p2, p3, p4, p5⟩, h7, hp⟩ := hX
  have hlim := xp_lim hp
  refine ⟨h2, x3_c (hv 201 (by decide)) h3, x4_c (hv 217 (by decide)) (hv 181 (by decide)) h4, ⟨q1, ⟨Int.le_refl 0, Int.le_refl 0, Nat.zero_le _, Nat.zero_le _, Nat.le_refl 0, fun k _ hk => absurd hk (Nat.not_lt_zero k)⟩, (fun c => absurd (show 0 ≤ (-1 : Int32).toInt from c) (by decide)), ?_⟩, ⟨(show (0 : Int32).toInt = 180 * ((0 : Int32).toInt / 180) by decide), ⟨Int.le_refl 0, Int.le_refl 0, rfl⟩, Or.inl rfl, Or.inl rfl, ?_⟩, x7_c (hv 202 (by decide)) h7, xp_c (fun c a b => hv c (by omega)) (hv 181 (by decide)) hp⟩
  · intro i j hi hj
    by_cases z : i = x
    · subst z
      rw [c1, hn] at hj
      have hj : j < n := by omega
      obtain ⟨f1, f2, f3, f4⟩ := e1 j hj
      obtain ⟨g1, g2, g3⟩ := hp.2.1 j (by omega)
      have t6 := xI_t hT (c := 206) (i := j) (by decide) (by decide) (by show j < 12; omega) (lo := 0) (hi' := 180) (gs := []) rfl rfl
      have t7 := xI_t hT (c := 207) (i := j) (by decide) (by decide) (by show j < 12; omega) (lo := 0) (hi' := 180) (gs := []) rfl rfl
      have t8 := xI_t hT (c := 208) (i := j) (by decide) (by decide) (by show j < 12; omega) (lo := 0) (hi' := 180) (gs := []) rfl rfl
      have g21 := g2.1
      have hb : (180 * (i : Int) + xI (xv M0) 207 j).toNat = 180 * i + (xI (xv M0) 207 j).toNat := by omega
      have he : (180 * (i : Int) + xI (xv M0) 208 j).toNat = 180 * i + (xI (xv M0) 208 j).toNat := by omega
      have ha : (180 * (i : Int) + xI (xv M0) 206 j).toNat = 180 * i + (xI (xv M0) 206 j).toNat := by omega
      have d7 : (180 * i + (xI (xv M0) 207 j).toNat) / 180 = i := by omega
      unfold xCl xIn xVp
      rw [f1, f2, f3, f4, hb, he, ha, d7]
      refine ⟨⟨⟨by omega, by omega, xPr_shift (m := m) d1 (by omega) g2⟩, fun c => ?_⟩, rfl, fun c => ?_⟩
      · have g3 := g3 c
        have g31 := g3.1
        rw [show (180 * i + (xI (xv M0) 206 j).toNat) / 180 = i by omega]
        exact ⟨by omega, by omega, xPr_shift (m := m) d1 (by omega) g3⟩
      · have g31 := (g3 c).1
        omega
    · rw [c2 i z] at hj
      have t10 := xI_t hT (c := 210) (i := i) (by decide) (by decide) (by show i < 3; omega) (lo := 0) (hi' := 12) (gs := []) rfl rfl
      obtain ⟨f1, f2, f3, f4⟩ := e2 (12 * i + j) (by omega)
      obtain ⟨⟨g1, g2⟩, g3, g4⟩ := q4 i j hi hj
      unfold xCl xIn xVp at *
      rw [f1, f2, f3, f4]
      refine ⟨⟨⟨g1.1, g1.2.1, xPr_c2 (fun k k1 k2 => d2 k ?_) g1.2.2⟩, fun c => ?_⟩, g3, g4⟩
      · have := g1.1
        rw [g3] at this
        omega
      · have g2 := g2 c
        have g4 := g4 c
        refine ⟨g2.1, g2.2.1, xPr_c2 (fun k k1 k2 => d2 k ?_) g2.2.2⟩
        have := g2.1
        rw [g4] at this
        omega
  · rw [xI_v (hv 215 (by decide))]
    exact p5
theorem aTyI {lo hi : Int} {gs : List Nat} {x : Int32} (h0 : lo ≤ x.toInt) (h1 : x.toInt ≤ hi) : aTy (1, lo, hi, gs) (.int x) := ⟨x, rfl, h0, h1⟩
theorem i32_mul180 {x : Int32} (h0 : 0 ≤ x.toInt) (h1 : x.toInt ≤ 1000) : (180 * x).toInt = 180 * x.toInt := by
  have : ((180 : Int32) * x).toInt = (180 : Int32).toInt * x.toInt := i32_mul (by show -2147483648 ≤ 180 * _; omega) (by show 180 * _ ≤ 2147483647; omega)
  rw [this]
  rfl
theorem lw_loop1 {s : List Int32} {d : Nat} {st : List Value} {Q : Option Value → Mem → Prop} {M0 : Mem} {L0 : MLoc} {x m g : Int32} (x0 : 0 ≤ x.toInt) (x1 : x.toInt ≤ 2) (m0 : 0 ≤ m.toInt) (m1 : m.toInt ≤ 178) (hm0 : mSlot M0 181 30 = some (.int m)) (hl0 : mLd L0 0 = some (.ref 181)) (hl1 : mLd L0 1 = some (.int x)) (hl3 : mLd L0 3 = some (.int g)) (K : ∀ L M, lwI s M0 L0 x.toInt.toNat m.toInt.toNat 0 L M → Ok d 212 157 L st M Q) : ∀ (n : Nat) (L : MLoc) (M : Mem) (k : Int32), m.toInt - k.toInt ≤ n → 0 ≤ k.toInt → k.toInt ≤ m.toInt → mLd L 4 = some (.int k) → lwI s M0 L0 x.toInt.toNat k.toInt.toNat 0 L M → Ok d 212 122 L st M Q := by
  intro n
  induction n with
  | zero =>
    intro L M k h1 h2 h3 l4 h
    obtain ⟨hT, hF, hv, hL, ⟨s30, s32⟩, _⟩ := id h
    have hd := hT.hd (c := 181) (by decide) (by decide)
    have l0 := (hL 0 (by decide)).trans hl0
    have l1 := (hL 1 (by decide)).trans hl1
    have hm := s30.trans hm0
    refine kIload (mi := 212) (pc := 122) (len := 2) (i := 4) rfl l4 ?_
    refine kAload (len := 1) (i := 0) rfl l0 ?_
    refine kGetf (len := 3) (j := 1130) rfl hd (by decide) hm ?_
    refine kIcT (len := 3) (t := 157) rfl rfl (c_ge (by omega)) ?_
    rw [show k.toInt.toNat = m.toInt.toNat by omega] at h
    exact K _ _ h
  | succ n ih =>
    intro L M k h1 h2 h3 l4 h
    obtain ⟨hT, hF, hv, hL, ⟨s30, s32⟩, hC, hD, hE, hG, hH⟩ := id h
    have hd := hT.hd (c := 181) (by decide) (by decide)
    have l0 := (hL 0 (by decide)).trans hl0
    have l1 := (hL 1 (by decide)).trans hl1
    have l3 := (hL 3 (by decide)).trans hl3
    have hm := s30.trans hm0
    refine kIload (mi := 212) (pc := 122) (len := 2) (i := 4) rfl l4 ?_
    refine kAload (len := 1) (i := 0) rfl l0 ?_
    refine kGetf (len := 3) (j := 1130) rfl hd (by decide) hm ?_
    by_cases e : m.toInt ≤ k.toInt
    · refine kIcT (len := 3) (t := 157) rfl rfl (c_ge e) ?_
      rw [show k.toInt.toNat = m.toInt.toNat by omega] at h
      exact K _ _ h
    · refine kIcF (len := 3) (t := 157) rfl rfl (c_nge (by omega)) ?_
      obtain ⟨y, y1, y2, y3⟩ := hT.int (c := 203) (i := k.toInt.toNat) (by decide) (by decide) (by show _ < 180; omega) (lo := -2147483648) (hi' := 2147483647) (gs := []) rfl
      have n1 : xI (xv M0) 203 k.toInt.toNat = y.toInt := by
        rw [← xI_v (hv 203 (by decide))]
        exact xI_at rfl y1
      have em := i32_mul180 (x := x) (by omega) (by omega)
      have ea : (180 * x + k).toInt = 180 * x.toInt + k.toInt := by rw [i32_add (by omega) (by omega), em]
      refine kAload (len := 1) (i := 0) rfl l0 ?_
      refine kGetf (len := 3) (j := 1140) rfl hd (by decide) (t181_ref hT (i := 40) (g := 209) (lo := 0) (hi := 0) (by decide) rfl rfl) ?_
      refine kIconst (len := 3) (v := 180) rfl ?_
      refine kIload (len := 1) (i := 1) rfl l1 ?_
      refine kMul (len := 1) rfl ?_
      refine kIload (len := 2) (i := 4) rfl l4 ?_
      refine kAdd (len := 1) rfl ?_
      refine kAload (len := 1) (i := 0) rfl l0 ?_
      refine kGetf (len := 3) (j := 1134) rfl hd (by decide) (t181_ref hT (i := 34) (g := 203) (lo := 0) (hi := 0) (by decide) rfl rfl) ?_
      refine kIload (len := 2) (i := 4) rfl l4 ?_
      refine kIald (len := 1) (n := 180) rfl (hT.hd (c := 203) (by decide) (by decide)) (by omega) (by show k.toInt < 180; omega) y1 ?_
      refine kIast (len := 1) (n := 540) rfl (hT.hd (c := 209) (by decide) (by decide)) (by decide) (by show 0 ≤ (180 * x + k).toInt; omega) (by show (180 * x + k).toInt < 540; omega) ?_
      have ek : (k + 1).toInt = k.toInt + 1 := i32_inc (by omega) (by omega)
      refine kIinc (len := 3) rfl l4 (by decide) ?_
      refine kGoto (len := 3) (t := 122) rfl rfl ?_
      refine ih _ (mPut M 209 (180 * x + k).toInt.toNat (.int y)) (k + 1) (by omega) (by omega) (by omega) mLd_st1_i ?_
      refine ⟨hT.put (a := 209) (i := (180 * x + k).toInt.toNat) (v := .int y) (by decide) (by decide) ⟨_, rfl, y2, y3⟩, hF.tr (aFr_put rfl), fun c hc => (xv_put (by omega)).trans (hv c hc), ?_, ⟨(mSlot_put_ne (Or.inl (by decide))).trans s30, (mSlot_put_ne (Or.inl (by decide))).trans s32⟩, ?_, ?_, ?_, fun t ht => absurd ht (Nat.not_lt_zero t), ?_⟩
      · intro q hq
        exact (kill_1 l3 q (by show (bif Nat.beq 4 q then true else false) = false; cases hb : Nat.beq 4 q with | false => rfl | true => exact absurd (Nat.eq_of_beq_eq_true hb).symm hq)).trans (hL q hq)
      · rw [xI_oth (c := 210) (by decide)]
        exact hC
      · intro t ht
        by_cases z : t = k.toInt.toNat
        · rw [z, n1, show 180 * x.toInt.toNat + k.toInt.toNat = (180 * x + k).toInt.toNat by omega]
          exact xI_put rfl (hT.hd (c := 209) (by decide) (by decide)) (by show _ < 540; omega)
        · rw [xI_ne (Or.inr (by omega))]
          exact hD t (by omega)
      · intro t ht
        rw [xI_ne (Or.inr (by omega))]
        exact hE t ht
      · intro t ht
        rw [xI_oth (c := 211) (by decide), xI_oth (c := 212) (by decide), xI_oth (c := 213) (by decide), xI_oth (c := 214) (by decide)]
        exact hH t ht
theorem lw_loop2 {s : List Int32} {d : Nat} {st : List Value} {Q : Option Value → Mem → Prop} {M0 : Mem} {L0 : MLoc} {x m n g : Int32} (x0 : 0 ≤ x.toInt) (x1 : x.toInt ≤ 2) (n0 : 0 ≤ n.toInt) (n1 : n.toInt ≤ 12) (hn0 : mSlot M0 181 32 = some (.int n)) (hl0 : mLd L0 0 = some (.ref 181)) (hl1 : mLd L0 1 = some (.int x)) (hl3 : mLd L0 3 = some (.int g)) (K : ∀ L M, lwI s M0 L0 x.toInt.toNat m.toInt.toNat n.toInt.toNat L M → Ok d 212 269 L st M Q) : ∀ (r : Nat) (L : MLoc) (M : Mem) (k : Int32), n.toInt - k.toInt ≤ r → 0 ≤ k.toInt → k.toInt ≤ n.toInt → mLd L 4 = some (.int k) → lwI s M0 L0 x.toInt.toNat m.toInt.toNat k.toInt.toNat L M → Ok d 212 160 L st M Q := by
  intro r
  induction r with
  | zero =>
    intro L M k h1 h2 h3 l4 h
    obtain ⟨hT, hF, hv, hL, ⟨s30, s32⟩, _⟩ := id h
    have hd := hT.hd (c := 181) (by decide) (by decide)
    have l0 := (hL 0 (by decide)).trans hl0
    have l1 := (hL 1 (by decide)).trans hl1
    have hn := s32.trans hn0
    refine kIload (mi := 212) (pc := 160) (len := 2) (i := 4) rfl l4 ?_
    refine kAload (len := 1) (i := 0) rfl l0 ?_
    refine kGetf (len := 3) (j := 1132) rfl hd (by decide) hn ?_
    refine kIcT (len := 3) (t := 269) rfl rfl (c_ge (by omega)) ?_
    rw [show k.toInt.toNat = n.toInt.toNat by omega] at h
    exact K _ _ h
  | succ r ih =>
    intro L M k h1 h2 h3 l4 h
    obtain ⟨hT, hF, hv, hL, ⟨s30, s32⟩, hC, hD, hE, hG, hH⟩ := id h
    have hd := hT.hd (c := 181) (by decide) (by decide)
    have l0 := (hL 0 (by decide)).trans hl0
    have l1 := (hL 1 (by decide)).trans hl1
    have l3 := (hL 3 (by decide)).trans hl3
    have hn := s32.trans hn0
    refine kIload (mi := 212) (pc := 160) (len := 2) (i := 4) rfl l4 ?_
    refine kAload (len := 1) (i := 0) rfl l0 ?_
    refine kGetf (len := 3) (j := 1132) rfl hd (by decide) hn ?_
    by_cases e : n.toInt ≤ k.toInt
    · refine kIcT (len := 3) (t := 269) rfl rfl (c_ge e) ?_
      rw [show k.toInt.toNat = n.toInt.toNat by omega] at h
      exact K _ _ h
    · refine kIcF (len := 3) (t := 269) rfl rfl (c_nge (by omega)) ?_
      have em := i32_mul180 (x := x) (by omega) (by omega)
      have e12 := i32_mul12 (x := x) (by omega) (by omega)
      have ea : (12 * x + k).toInt = 12 * x.toInt + k.toInt := by rw [i32_add (by omega) (by omega), e12]
      obtain ⟨a, a1, a2, a3⟩ := hT.int (c := 205) (i := k.toInt.toNat) (by decide) (by decide) (by show _ < 12; omega) (lo := 0) (hi' := 255) (gs := []) rfl
      have na : xI (xv M0) 205 k.toInt.toNat = a.toInt := by
        rw [← xI_v (hv 205 (by decide))]
        exact xI_at rfl a1
      obtain ⟨b, b1, b2, b3⟩ := hT.int (c := 206) (i := k.toInt.toNat) (by decide) (by decide) (by show _ < 12; omega) (lo := 0) (hi' := 180) (gs := []) rfl
      have nb : xI (xv M0) 206 k.toInt.toNat = b.toInt := by
        rw [← xI_v (hv 206 (by decide))]
        exact xI_at rfl b1
      obtain ⟨c, c1, c2, c3⟩ := hT.int (c := 207) (i := k.toInt.toNat) (by decide) (by decide) (by show _ < 12; omega) (lo := 0) (hi' := 180) (gs := []) rfl
      have nc : xI (xv M0) 207 k.toInt.toNat = c.toInt := by
        rw [← xI_v (hv 207 (by decide))]
        exact xI_at rfl c1
      obtain ⟨e, e1, e2, e3⟩ := hT.int (c := 208) (i := k.toInt.toNat) (by decide) (by decide) (by show _ < 12; omega) (lo := 0) (hi' := 180) (gs := []) rfl
      have ne : xI (xv M0) 208 k.toInt.toNat = e.toInt := by
        rw [← xI_v (hv 208 (by decide))]
        exact xI_at rfl e1
      have sb : (180 * x + b).toInt = 180 * x.toInt + b.toInt := by rw [i32_add (by omega) (by omega), em]
      have sc : (180 * x + c).toInt = 180 * x.toInt + c.toInt := by rw [i32_add (by omega) (by omega), em]
      have se : (180 * x + e).toInt = 180 * x.toInt + e.toInt := by rw [i32_add (by omega) (by omega), em]
      refine kAload (len := 1) (i := 0) rfl l0 ?_
      refine kGetf (len := 3) (j := 1142) rfl hd (by decide) (t181_ref hT (i := 42) (g := 211) (lo := 0) (hi := 0) (by decide) rfl rfl) ?_
      refine kIconst (len := 2) (v := 12) rfl ?_
      refine kIload (len := 1) (i := 1) rfl l1 ?_
      refine kMul (len := 1) rfl ?_
      refine kIload (len := 2) (i := 4) rfl l4 ?_
      refine kAdd (len := 1) rfl ?_
      refine kAload (len := 1) (i := 0) rfl l0 ?_
      refine kGetf (len := 3) (j := 1136) rfl hd (by decide) (t181_ref hT (i := 36) (g := 205) (lo := 0) (hi := 0) (by decide) rfl rfl) ?_
      refine kIload (len := 2) (i := 4) rfl l4 ?_
      refine kIald (len := 1) (n := 12) rfl (hT.hd (c := 205) (by decide) (by decide)) (by omega) (by show k.toInt < 12; omega) a1 ?_
      refine kIast (len := 1) (n := 36) rfl (hT.hd (c := 211) (by decide) (by decide)) (by decide) (by show 0 ≤ (12 * x + k).toInt; omega) (by show (12 * x + k).toInt < 36; omega) ?_
      refine kAload (len := 1) (i := 0) rfl l0 ?_
      refine kGetf (len := 3) (j := 1143) rfl (mHd_put.trans hd) (by decide) ((mSlot_put_ne (Or.inl (by decide))).trans (t181_ref hT (i := 43) (g := 212) (lo := 0) (hi := 0) (by decide) rfl rfl)) ?_
      refine kIconst (len := 2) (v := 12) rfl ?_
      refine kIload (len := 1) (i := 1) rfl l1 ?_
      refine kMul (len := 1) rfl ?_
      refine kIload (len := 2) (i := 4) rfl l4 ?_
      refine kAdd (len := 1) rfl ?_
      refine kIconst (len := 3) (v := 180) rfl ?_
      refine kIload (len := 1) (i := 1) rfl l1 ?_
      refine kMul (len := 1) rfl ?_
      refine kAload (len := 1) (i := 0) rfl l0 ?_
      refine kGetf (len := 3) (j := 1137) rfl (mHd_put.trans hd) (by decide) ((mSlot_put_ne (Or.inl (by decide))).trans (t181_ref hT (i := 37) (g := 206) (lo := 0) (hi := 0) (by decide) rfl rfl)) ?_
      refine kIload (len := 2) (i := 4) rfl l4 ?_
      refine kIald (len := 1) (n := 12) rfl (mHd_put.trans (hT.hd (c := 206) (by decide) (by decide))) (by omega) (by show k.toInt < 12; omega) ((mSlot_put_ne (Or.inl (by decide))).trans b1) ?_
      refine kAdd (len := 1) rfl ?_
      refine kIast (len := 1) (n := 36) rfl (mHd_put.trans (hT.hd (c := 212) (by decide) (by decide))) (by decide) (by show 0 ≤ (12 * x + k).toInt; omega) (by show (12 * x + k).toInt < 36; omega) ?_
      refine kAload (len := 1) (i := 0) rfl l0 ?_
      refine kGetf (len := 3) (j := 1144) rfl (mHd_put.trans (mHd_put.trans hd)) (by decide) ((mSlot_put_ne (Or.inl (by decide))).trans ((mSlot_put_ne (Or.inl (by decide))).trans (t181_ref hT (i := 44) (g := 213) (lo := 0) (hi := 0) (by decide) rfl rfl))) ?_
      refine kIconst (len := 2) (v := 12) rfl ?_
      refine kIload (len := 1) (i := 1) rfl l1 ?_
      refine kMul (len := 1) rfl ?_
      refine kIload (len := 2) (i := 4) rfl l4 ?_
      refine kAdd (len := 1) rfl ?_
      refine kIconst (len := 3) (v := 180) rfl ?_
      refine kIload (len := 1) (i := 1) rfl l1 ?_
      refine kMul (len := 1) rfl ?_
      refine kAload (len := 1) (i := 0) rfl l0 ?_
      refine kGetf (len := 3) (j := 1138) rfl (mHd_put.trans (mHd_put.trans hd)) (by decide) ((mSlot_put_ne (Or.inl (by decide))).trans ((mSlot_put_ne (Or.inl (by decide))).trans (t181_ref hT (i := 38) (g := 207) (lo := 0) (hi := 0) (by decide) rfl rfl))) ?_
      refine kIload (len := 2) (i := 4) rfl l4 ?_
      refine kIald (len := 1) (n := 12) rfl (mHd_put.trans (mHd_put.trans (hT.hd (c := 207) (by decide) (by decide)))) (by omega) (by show k.toInt < 12; omega) ((mSlot_put_ne (Or.inl (by decide))).trans ((mSlot_put_ne (Or.inl (by decide))).trans c1)) ?_
      refine kAdd (len := 1) rfl ?_
      refine kIast (len := 1) (n := 36) rfl (mHd_put.trans (mHd_put.trans (hT.hd (c := 213) (by decide) (by decide)))) (by decide) (by show 0 ≤ (12 * x + k).toInt; omega) (by show (12 * x + k).toInt < 36; omega) ?_
      refine kAload (len := 1) (i := 0) rfl l0 ?_
      refine kGetf (len := 3) (j := 1145) rfl (mHd_put.trans (mHd_put.trans (mHd_put.trans hd))) (by decide) ((mSlot_put_ne (Or.inl (by decide))).trans ((mSlot_put_ne (Or.inl (by decide))).trans ((mSlot_put_ne (Or.inl (by decide))).trans (t181_ref hT (i := 45) (g := 214) (lo := 0) (hi := 0) (by decide) rfl rfl)))) ?_
      refine kIconst (len := 2) (v := 12) rfl ?_
      refine kIload (len := 1) (i := 1) rfl l1 ?_
      refine kMul (len := 1) rfl ?_
      refine kIload (len := 2) (i := 4) rfl l4 ?_
      refine kAdd (len := 1) rfl ?_
      refine kIconst (len := 3) (v := 180) rfl ?_
      refine kIload (len := 1) (i := 1) rfl l1 ?_
      refine kMul (len := 1) rfl ?_
      refine kAload (len := 1) (i := 0) rfl l0 ?_
      refine kGetf (len := 3) (j := 1139) rfl (mHd_put.trans (mHd_put.trans (mHd_put.trans hd))) (by decide) ((mSlot_put_ne (Or.inl (by decide))).trans ((mSlot_put_ne (Or.inl (by decide))).trans ((mSlot_put_ne (Or.inl (by decide))).trans (t181_ref hT (i := 39) (g := 208) (lo := 0) (hi := 0) (by decide) rfl rfl)))) ?_
      refine kIload (len := 2) (i := 4) rfl l4 ?_
      refine kIald (len := 1) (n := 12) rfl (mHd_put.trans (mHd_put.trans (mHd_put.trans (hT.hd (c := 208) (by decide) (by decide))))) (by omega) (by show k.toInt < 12; omega) ((mSlot_put_ne (Or.inl (by decide))).trans ((mSlot_put_ne (Or.inl (by decide))).trans ((mSlot_put_ne (Or.inl (by decide))).trans e1))) ?_
      refine kAdd (len := 1) rfl ?_
      refine kIast (len := 1) (n := 36) rfl (mHd_put.trans (mHd_put.trans (mHd_put.trans (hT.hd (c := 214) (by decide) (by decide))))) (by decide) (by show 0 ≤ (12 * x + k).toInt; omega) (by show (12 * x + k).toInt < 36; omega) ?_
      have ek : (k + 1).toInt = k.toInt + 1 := i32_inc (by omega) (by omega)
      refine kIinc (len := 3) rfl l4 (by decide) ?_
      refine kGoto (len := 3) (t := 160) rfl rfl ?_
      have w211 : xI (xv (mPut (mPut (mPut (mPut M 211 (12 * x + k).toInt.toNat (.int a)) 212 (12 * x + k).toInt.toNat (.int (180 * x + b))) 213 (12 * x + k).toInt.toNat (.int (180 * x + c))) 214 (12 * x + k).toInt.toNat (.int (180 * x + e)))) 211 (12 * x + k).toInt.toNat = a.toInt := (xI_ne (Or.inl (by decide))).trans ((xI_ne (Or.inl (by decide))).trans ((xI_ne (Or.inl (by decide))).trans (xI_put rfl (hT.hd (c := 211) (by decide) (by decide)) (by show _ < 36; omega))))
      have u211 : ∀ t, t ≠ (12 * x + k).toInt.toNat → xI (xv (mPut (mPut (mPut (mPut M 211 (12 * x + k).toInt.toNat (.int a)) 212 (12 * x + k).toInt.toNat (.int (180 * x + b))) 213 (12 * x + k).toInt.toNat (.int (180 * x + c))) 214 (12 * x + k).toInt.toNat (.int (180 * x + e)))) 211 t = xI (xv M) 211 t := fun t h => (xI_ne (Or.inl (by decide))).trans ((xI_ne (Or.inl (by decide))).trans ((xI_ne (Or.inl (by decide))).trans (xI_ne (Or.inr h))))
      have w212 : xI (xv (mPut (mPut (mPut (mPut M 211 (12 * x + k).toInt.toNat (.int a)) 212 (12 * x + k).toInt.toNat (.int (180 * x + b))) 213 (12 * x + k).toInt.toNat (.int (180 * x + c))) 214 (12 * x + k).toInt.toNat (.int (180 * x + e)))) 212 (12 * x + k).toInt.toNat = (180 * x + b).toInt := (xI_ne (Or.inl (by decide))).trans ((xI_ne (Or.inl (by decide))).trans (xI_put rfl (mHd_put.trans (hT.hd (c := 212) (by decide) (by decide))) (by show _ < 36; omega)))
      have u212 : ∀ t, t ≠ (12 * x + k).toInt.toNat → xI (xv (mPut (mPut (mPut (mPut M 211 (12 * x + k).toInt.toNat (.int a)) 212 (12 * x + k).toInt.toNat (.int (180 * x + b))) 213 (12 * x + k).toInt.toNat (.int (180 * x + c))) 214 (12 * x + k).toInt.toNat (.int (180 * x + e)))) 212 t = xI (xv M) 212 t := fun t h => (xI_ne (Or.inl (by decide))).trans ((xI_ne (Or.inl (by decide))).trans ((xI_ne (Or.inr h)).trans (xI_ne (Or.inl (by decide)))))
      have w213 : xI (xv (mPut (mPut (mPut (mPut M 211 (12 * x + k).toInt.toNat (.int a)) 212 (12 * x + k).toInt.toNat (.int (180 * x + b))) 213 (12 * x + k).toInt.toNat (.int (180 * x + c))) 214 (12 * x + k).toInt.toNat (.int (180 * x + e)))) 213 (12 * x + k).toInt.toNat = (180 * x + c).toInt := (xI_ne (Or.inl (by decide))).trans (xI_put rfl (mHd_put.trans (mHd_put.trans (hT.hd (c := 213) (by decide) (by decide)))) (by show _ < 36; omega))
      have u213 : ∀ t, t ≠ (12 * x + k).toInt.toNat → xI (xv (mPut (mPut (mPut (mPut M 211 (12 * x + k).toInt.toNat (.int a)) 212 (12 * x + k).toInt.toNat (.int (180 * x + b))) 213 (12 * x + k).toInt.toNat (.int (180 * x + c))) 214 (12 * x + k).toInt.toNat (.int (180 * x + e)))) 213 t = xI (xv M) 213 t := fun t h => (xI_ne (Or.inl (by decide))).trans ((xI_ne (Or.inr h)).trans ((xI_ne (Or.inl (by decide))).trans (xI_ne (Or.inl (by decide)))))
      have w214 : xI (xv (mPut (mPut (mPut (mPut M 211 (12 * x + k).toInt.toNat (.int a)) 212 (12 * x + k).toInt.toNat (.int (180 * x + b))) 213 (12 * x + k).toInt.toNat (.int (180 * x + c))) 214 (12 * x + k).toInt.toNat (.int (180 * x + e)))) 214 (12 * x + k).toInt.toNat = (180 * x + e).toInt := xI_put rfl (mHd_put.trans (mHd_put.trans (mHd_put.trans (hT.hd (c := 214) (by decide) (by decide))))) (by show _ < 36; omega)
      have u214 : ∀ t, t ≠ (12 * x + k).toInt.toNat → xI (xv (mPut (mPut (mPut (mPut M 211 (12 * x + k).toInt.toNat (.int a)) 212 (12 * x + k).toInt.toNat (.int (180 * x + b))) 213 (12 * x + k).toInt.toNat (.int (180 * x + c))) 214 (12 * x + k).toInt.toNat (.int (180 * x + e)))) 214 t = xI (xv M) 214 t := fun t h => (xI_ne (Or.inr h)).trans ((xI_ne (Or.inl (by decide))).trans ((xI_ne (Or.inl (by decide))).trans (xI_ne (Or.inl (by decide)))))
      refine ih _ (mPut (mPut (mPut (mPut M 211 (12 * x + k).toInt.toNat (.int a)) 212 (12 * x + k).toInt.toNat (.int (180 * x + b))) 213 (12 * x + k).toInt.toNat (.int (180 * x + c))) 214 (12 * x + k).toInt.toNat (.int (180 * x + e))) (k + 1) (by omega) (by omega) (by omega) mLd_st1_i ?_
      refine ⟨(((hT.put (a := 211) (i := (12 * x + k).toInt.toNat) (v := .int a) (by decide) (by decide) (aTyI (lo := -2147483648) (hi := 2147483647) (gs := []) (i32_rng a).1 (i32_rng a).2)).put (a := 212) (i := (12 * x + k).toInt.toNat) (v := .int (180 * x + b)) (by decide) (by decide) (aTyI (lo := 0) (hi := 540) (gs := []) (by omega) (by omega))).put (a := 213) (i := (12 * x + k).toInt.toNat) (v := .int (180 * x + c)) (by decide) (by decide) (aTyI (lo := 0) (hi := 540) (gs := []) (by omega) (by omega))).put (a := 214) (i := (12 * x + k).toInt.toNat) (v := .int (180 * x + e)) (by decide) (by decide) (aTyI (lo := 0) (hi := 540) (gs := []) (by omega) (by omega)), hF.tr ((aFr_put rfl).tr ((aFr_put rfl).tr ((aFr_put rfl).tr (aFr_put rfl)))), fun c hc => (xv_put (by omega)).trans ((xv_put (by omega)).trans ((xv_put (by omega)).trans ((xv_put (by omega)).trans (hv c hc)))), ?_, ⟨(mSlot_put_ne (Or.inl (by decide))).trans ((mSlot_put_ne (Or.inl (by decide))).trans ((mSlot_put_ne (Or.inl (by decide))).trans ((mSlot_put_ne (Or.inl (by decide))).trans s30))), (mSlot_put_ne (Or.inl (by decide))).trans ((mSlot_put_ne (Or.inl (by decide))).trans ((mSlot_put_ne (Or.inl (by decide))).trans ((mSlot_put_ne (Or.inl (by decide))).trans s32)))⟩, ?_, ?_, ?_, ?_, ?_⟩
      · intro q hq
        exact (kill_1 l3 q (by show (bif Nat.beq 4 q then true else false) = false; cases hb : Nat.beq 4 q with | false => rfl | true => exact absurd (Nat.eq_of_beq_eq_true hb).symm hq)).trans (hL q hq)
      · rw [xI_oth (c := 210) (by decide), xI_oth (c := 210) (by decide), xI_oth (c := 210) (by decide), xI_oth (c := 210) (by decide)]
        exact hC
      · rw [xI_oth (c := 209) (by decide), xI_oth (c := 209) (by decide), xI_oth (c := 209) (by decide), xI_oth (c := 209) (by decide)]
        exact hD
      · rw [xI_oth (c := 209) (by decide), xI_oth (c := 209) (by decide), xI_oth (c := 209) (by decide), xI_oth (c := 209) (by decide)]
        exact hE
      · intro t ht
        by_cases z : t = k.toInt.toNat
        · rw [z, na, nb, nc, ne, show 12 * x.toInt.toNat + k.toInt.toNat = (12 * x + k).toInt.toNat by omega]
          exact ⟨w211, by rw [w212]; omega, by rw [w213]; omega, by rw [w214]; omega⟩
        · rw [u211 _ (by omega), u212 _ (by omega), u213 _ (by omega), u214 _ (by omega)]
          exact hG t (by omega)
      · intro t ht
        rw [u211 _ (by omega), u212 _ (by omega), u213 _ (by omega), u214 _ (by omega)]
        exact hH t ht
theorem gs_lw2 {s : List Int32} : gSound0 s sg_lw2 := by
  intro γ d σ L st0 st M Q _ h k
  have e0 := eNil h
  subst e0
  have hl0 := eR h (i := 0) (g := 181) (c := 0) rfl rfl
  obtain ⟨l1, hl1, el1⟩ := eI h (i := 1) (sy := 1) (c := 0) rfl
  obtain ⟨l3, hl3, el3⟩ := eI h (i := 3) (sy := 2) (c := 0) rfl
  obtain ⟨f32, hf32, ef32⟩ := eF h (g := 181) (i := 32) (sy := 3) (c := 0) (by decide) (by decide) rfl (List.Mem.head _)
  obtain ⟨f30, hf30, ef30⟩ := eF h (g := 181) (i := 30) (sy := 4) (c := 0) (by decide) (by decide) rfl (List.Mem.tail _ (List.Mem.head _))
  have b1 := eB h (i := 1) (lo := 0) (hi := 2) rfl
  have b2 := eB h (i := 2) (lo := 0) (hi := 1) rfl
  have b3 := eB h (i := 3) (lo := 0) (hi := 12) rfl
  have b4 := eB h (i := 4) (lo := 0) (hi := 178) rfl
  have s0 := h.1.2.1.1
  have h8 : x8 (s, γ) := h.2.2.2.1.2
  have hX : tXI γ M := h.2.2.2.2.2.2
  have hT := aTp_of h.2.2.2
  have hd := hT.hd (c := 181) (by decide) (by decide)
  refine kAload (mi := 212) (pc := 109) (len := 1) (i := 0) rfl hl0 ?_
  refine kGetf (len := 3) (j := 1141) rfl hd (by decide) (t181_ref hT (i := 41) (g := 210) (lo := 0) (hi := 0) (by decide) rfl rfl) ?_
  refine kIload (len := 1) (i := 1) rfl hl1 ?_
  refine kAload (len := 1) (i := 0) rfl hl0 ?_
  refine kGetf (len := 3) (j := 1132) rfl hd (by decide) hf32 ?_
  refine kIast (len := 1) (n := 3) rfl (hT.hd (c := 210) (by decide) (by decide)) (by decide) (by omega) (by show l1.toInt < 3; omega) ?_
  refine kIconst (len := 1) (v := 0) rfl ?_
  refine kIstore (len := 2) (i := 4) rfl (by decide) ?_
  refine lw_loop1 (s := s) (M0 := M) (L0 := L) (x := l1) (m := f30) (g := l3) (by omega) (by omega) (by omega) (by omega) hf30 hl0 hl1 hl3 ?_ f30.toInt.toNat _ _ 0 (by show f30.toInt - 0 ≤ _; omega) (Int.le_refl 0) (by show (0 : Int) ≤ _; omega) mLd_st1_i ?_
  · intro L1 M1 h1
    have k3 := (h1.2.2.2.1 3 (by decide)).trans hl3
    refine kIconst (len := 1) (v := 0) rfl ?_
    refine kIstore (len := 2) (i := 4) rfl (by decide) ?_
    refine lw_loop2 (s := s) (M0 := M) (L0 := L) (x := l1) (m := f30) (n := f32) (g := l3) (by omega) (by omega) (by omega) (by omega) hf32 hl0 hl1 hl3 ?_ f32.toInt.toNat _ _ 0 (by show f32.toInt - 0 ≤ _; omega) (Int.le_refl 0) (by show (0 : Int) ≤ _; omega) mLd_st1_i ?_
    · intro L2 M2 h2
      have hz := lw_fin hX hT (x := l1.toInt.toNat) (m := f30.toInt.toNat) (n := f32.toInt.toNat) (by omega) (by rw [xI_at rfl hf30]; omega) (by omega) (by rw [xI_at rfl hf32]; omega) (by omega) h2
      refine k (gUp (gUp (gUp (gUp (gUp (gUp (gUp (gUp (gUp γ 1005 2 (-1)) 1005 0 0) 1005 1 0) 1005 5 0) 1006 0 0) 1006 1 0) 1006 2 (-1)) 1006 5 (-1)) 1006 8 0) σ _ L2 [] M2 (List.Mem.head _) (fun i hi => h2.2.2.2.1 i (fun e => by subst e; cases hi)) h2.2.1 (gFr_up rfl (gFr_up rfl (gFr_up rfl (gFr_up rfl (gFr_up rfl (gFr_up rfl (gFr_up rfl (gFr_up rfl (gFr_up rfl gFr.rf))))))))) aExt.rf ?_
      exact mkHold (by decide) s0 ⟨b00 s0, b1, b2, b3, b4, True.intro⟩ True.intro True.intro True.intro (aMem_mk h8 h2.1 hz)
    · obtain ⟨a1, a2, a3, a4, a5⟩ := h1
      refine ⟨a1, a2, a3, fun q hq => ?_, a5⟩
      exact (kill_1 k3 q (by show (bif Nat.beq 4 q then true else false) = false; cases hb : Nat.beq 4 q with | false => rfl | true => exact absurd (Nat.eq_of_beq_eq_true hb).symm hq)).trans (a4 q hq)
  · refine ⟨hT.put (a := 210) (i := l1.toInt.toNat) (v := .int f32) (by decide) (by decide) ⟨_, rfl, by show (0 : Int) ≤ f32.toInt; omega, by show f32.toInt ≤ 12; omega⟩, aFr_put rfl, fun c hc => xv_put (by omega), ?_, ⟨mSlot_put_ne (Or.inl (by decide)), mSlot_put_ne (Or.inl (by decide))⟩, ⟨?_, fun i hi => xI_ne (Or.inr hi)⟩, fun t ht => absurd ht (Nat.not_lt_zero t), fun t _ => xI_ne (Or.inl (by decide)), fun t ht => absurd ht (Nat.not_lt_zero t), fun t _ => ⟨xI_ne (Or.inl (by decide)), xI_ne (Or.inl (by decide)), xI_ne (Or.inl (by decide)), xI_ne (Or.inl (by decide))⟩⟩
    · intro q hq
      exact kill_1 hl3 q (by show (bif Nat.beq 4 q then true else false) = false; cases hb : Nat.beq 4 q with | false => rfl | true => exact absurd (Nat.eq_of_beq_eq_true hb).symm hq)
    · rw [xI_at rfl hf32]
      exact xI_put rfl (hT.hd (c := 210) (by decide) (by decide)) (by show _ < 3; omega)

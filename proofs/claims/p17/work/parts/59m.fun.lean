/-! a hearing, a well: what class and reference hold alike afterwards; what they answer (by hand) -/
theorem rA_rng : ∀ f, f < 10 → 185 ≤ rA f ∧ rA f ≤ 194 := by decide
theorem AL_kn {M N : Mem} {n : Nat} (h : AL M M n) (e : ∀ c i, (c = 181 ∧ i = 0) ∨ c = 183 ∨ (185 ≤ c ∧ c ≤ 194) → iv N c i = iv M c i) : AL M N n := by
  obtain ⟨h1, h2, h3, h4, h5⟩ := h
  refine ⟨h1, h2, by rw [e 181 0 (by omega)]; exact h3, fun d hd => ?_, fun s hs => by rw [e 183 s (by omega)]; exact h5 s hs⟩
  obtain ⟨a, b, c⟩ := h4 d hd
  refine ⟨fun f hf hf7 => ?_, ?_, c⟩
  · rw [e (rA f) d (Or.inr (Or.inr (rA_rng f hf)))]
    exact a f hf hf7
  · rw [e 191 d (by omega)]
    exact b
theorem hG_eq {M N : Mem} {n : Nat} (hA : AL M N n) {p x v : Int32} (h15 : (iv N 181 15).toInt = (iv M 93 3).toInt) (r : (iv M 93 3).toInt ≤ 60) : hGr N p x v = hGd M p x v := by
  unfold hGr hGd
  rw [rPer_eq, rDeed_eq hA, rDay_eq]
  cases bPer p with
  | false => rfl
  | true =>
    cases hb : bDeed M x with
    | false => rfl
    | true =>
      have hx := (bDeed_true hA hb).2
      have e3 := (hA.2.2.2.1 x.toInt.toNat hx).1 3 (by decide) (by decide)
      have e3 : (iv M (10 + x.toInt.toNat) 3).toInt = (iv N 188 x.toInt.toNat).toInt := e3
      unfold bHah
      rw [e3, h15]
      by_cases c : (iv M 93 3).toInt < 60
      · rw [decide_eq_true c, decide_eq_false (show ¬ (iv M 93 3).toInt = 60 by omega)]
        rfl
      · rw [decide_eq_false c, decide_eq_true (show (iv M 93 3).toInt = 60 by omega)]
        rfl
theorem wG_eq {M N : Mem} {t q : Int32} (h16 : (iv N 181 16).toInt = (iv M 93 6).toInt) (r : (iv M 93 6).toInt ≤ 20) : wGr N t q = wGd M t q := by
  unfold wGr wGd
  rw [rDay_eq]
  cases bDay t with
  | false => rfl
  | true =>
    have eT : (!decide ((iv N 181 16).toInt = 20)) = !bHaw M := by
      unfold bHaw
      rw [h16]
      by_cases c : (iv M 93 6).toInt < 20
      · rw [decide_eq_true c, decide_eq_false (show ¬ (iv M 93 6).toInt = 20 by omega)]
        rfl
      · rw [decide_eq_false c, decide_eq_true (show (iv M 93 6).toInt = 20 by omega)]
        rfl
    rw [eT]
    by_cases a : q.toInt < 0
    · have e1 : rIn q 1 1023 = false := by
        unfold rIn
        rw [decide_eq_true (show q.toInt < (1 : Int32).toInt by have : (1 : Int32).toInt = 1 := rfl; omega)]
        rfl
      have e2 : bIn q 1024 = false := by
        unfold bIn
        rw [decide_eq_true a]
        rfl
      rw [e1, e2, Bool.false_and, Bool.false_and]
    · by_cases b : q.toInt = 0
      · have e0 : q = 0 := Int32.toInt_inj.mp (b.trans rfl)
        subst e0
        have e1 : rIn 0 1 1023 = false := by decide
        have e2 : (bcW 0).toInt < 2 := by decide
        rw [e1, decide_eq_true e2]
        cases bIn 0 1024 <;> rfl
      · by_cases c : q.toInt < 1024
        · have e1 : rIn q 1 1023 = true := by
            unfold rIn
            rw [decide_eq_false (show ¬ q.toInt < (1 : Int32).toInt by have : (1 : Int32).toInt = 1 := rfl; omega), decide_eq_false (show ¬ (1023 : Int32).toInt < q.toInt by have : (1023 : Int32).toInt = 1023 := rfl; omega)]
            rfl
          have e2 : bIn q 1024 = true := by
            unfold bIn
            rw [decide_eq_false a, decide_eq_true (show q.toInt < (1024 : Int32).toInt by have : (1024 : Int32).toInt = 1024 := rfl; omega)]
            rfl
          rw [e1, e2, bcW_i (by omega) c]
        · have e1 : rIn q 1 1023 = false := by
            unfold rIn
            rw [decide_eq_false (show ¬ q.toInt < (1 : Int32).toInt by have : (1 : Int32).toInt = 1 := rfl; omega), decide_eq_true (show (1023 : Int32).toInt < q.toInt by have : (1023 : Int32).toInt = 1023 := rfl; omega)]
            rfl
          have e2 : bIn q 1024 = false := by
            unfold bIn
            rw [decide_eq_false a, decide_eq_false (show ¬ q.toInt < (1024 : Int32).toInt by have : (1024 : Int32).toInt = 1024 := rfl; omega)]
            rfl
          rw [e1, e2, Bool.false_and, Bool.false_and]
theorem kA_hear {M N : Mem} {p x v : Int32} {H : Nat} (h : kHW M 93 195) (h0 : (iv M 93 3).toInt = (H : Int)) (hc : (iv N 93 3).toInt = (H : Int) + 1) (e : ∀ k, (iv N 94 k = (if k = H then p else iv M 94 k) ∧ iv N 95 k = (if k = H then x else iv M 95 k) ∧ iv N 96 k = (if k = H then v else iv M 96 k)) ∧ iv N 195 k = (if k = H then p else iv M 195 k) ∧ iv N 196 k = (if k = H then x else iv M 196 k) ∧ iv N 197 k = (if k = H then v else iv M 197 k)) (ew : iv N 93 6 = iv M 93 6 ∧ ∀ k, iv N 97 k = iv M 97 k ∧ iv N 98 k = iv M 98 k ∧ iv N 198 k = iv M 198 k ∧ iv N 199 k = iv M 199 k) : kHW N 93 195 := by
  obtain ⟨a, π, p1, p2⟩ := h
  refine ⟨fun k hk => ?_, π, ?_, fun k hk => ?_⟩
  · show iv N 94 k = iv N 195 k ∧ iv N 95 k = iv N 196 k ∧ iv N 96 k = iv N 197 k
    obtain ⟨⟨e1, e2, e3⟩, e4, e5, e6⟩ := e k
    rw [e1, e2, e3, e4, e5, e6]
    by_cases c : k = H
    · rw [if_pos c, if_pos c, if_pos c, if_pos c, if_pos c, if_pos c]
      exact ⟨rfl, rfl, rfl⟩
    · rw [if_neg c, if_neg c, if_neg c, if_neg c, if_neg c, if_neg c]
      exact a k (by omega)
  · rw [ew.1]
    refine knP_congr (fun k _ => ?_) p1
    show (iv M 198 k).toInt = (iv N 198 k).toInt
    rw [(ew.2 k).2.2.1]
  · rw [ew.1] at hk
    show iv N 97 k = iv N 198 (π k) ∧ iv N 98 k = iv N 199 (π k)
    rw [(ew.2 k).1, (ew.2 k).2.1, (ew.2 (π k)).2.2.1, (ew.2 (π k)).2.2.2]
    exact p2 k hk
/-- another deed's column takes no notice -/
theorem knO_hear {M P : Mem} {x : Int32} {H d q : Nat} (h0 : (iv M 93 3).toInt = (H : Int)) (hc : (iv P 93 3).toInt = (H : Int) + 1) (ex : iv P 95 H = x) (hx : x.toInt ≠ (d : Int)) (e : ∀ k, k < H → iv P 94 k = iv M 94 k ∧ iv P 95 k = iv M 95 k ∧ iv P 96 k = iv M 96 k) (ew : iv P 93 6 = iv M 93 6 ∧ ∀ k, iv P 97 k = iv M 97 k ∧ iv P 98 k = iv M 98 k) (ed : iv P (10 + d) 0 = iv M (10 + d) 0 ∧ iv P (10 + d) 1 = iv M (10 + d) 1 ∧ iv P (10 + d) 3 = iv M (10 + d) 3) (hq : q < 10) : knO P d d q = knO M d d q := by
  unfold knO
  rw [ew.1, ed.1, ed.2.1, ed.2.2, show (iv P 93 3).toInt.toNat = H + 1 by omega, show (iv M 93 3).toInt.toNat = H by omega]
  refine knW_congr (fun p hp => ?_) (fun k _ => ?_) q hq
  · show (if (iv P 95 H).toInt = (d : Int) then _ else knH (fun k => (iv P 94 k).toInt) (fun k => (iv P 95 k).toInt) (fun k => (iv P 96 k).toInt) (d : Int) (knI (iv M (10 + d) 0).toInt (iv M (10 + d) 1).toInt (iv M (10 + d) 3).toInt) H) p = _
    rw [ex, if_neg hx]
    refine knH_congr (P := 10) (fun _ _ => rfl) (fun k hk => ?_) p hp
    obtain ⟨a, b, c⟩ := e k hk
    rw [a, b, c]
    exact ⟨rfl, rfl, rfl⟩
  · rw [(ew.2 k).1, (ew.2 k).2]
    exact ⟨rfl, rfl⟩
theorem hPutC_at {s : List Int32} {M : Mem} {p x v : Int32} (hT : aTp s M) (hh : bHah M = false) : (iv M 93 3).toInt = ((iv M 93 3).toInt.toNat : Int) ∧ (iv (hPutC M p x v) 93 3).toInt = ((iv M 93 3).toInt.toNat : Int) + 1 ∧ (∀ k, iv (hPutC M p x v) 94 k = (if k = (iv M 93 3).toInt.toNat then p else iv M 94 k) ∧ iv (hPutC M p x v) 95 k = (if k = (iv M 93 3).toInt.toNat then x else iv M 95 k) ∧ iv (hPutC M p x v) 96 k = (if k = (iv M 93 3).toInt.toNat then v else iv M 96 k)) ∧ ∀ c i, c ≠ 94 → c ≠ 95 → c ≠ 96 → ¬ (c = 93 ∧ i = 3) → mSlot (hPutC M p x v) c i = mSlot M c i := by
  have rH := iv_ty hT (c := 93) (i := 3) (by decide) (by decide) (by decide) (lo := 0) (hi' := 60) (gs := []) rfl
  have h60 : (iv M 93 3).toInt < 60 := by
    by_cases c : (iv M 93 3).toInt < 60
    · exact c
    · unfold bHah at hh
      rw [decide_eq_false c] at hh
      cases hh
  have S0 := Sh.of hT
  have S1 : Sh (mPut M 94 (iv M 93 3).toInt.toNat (.int p)) := S0.put (by decide) (by decide) rfl
  have S2 : Sh (mPut (mPut M 94 (iv M 93 3).toInt.toNat (.int p)) 95 (iv M 93 3).toInt.toNat (.int x)) := S1.put (by decide) (by decide) rfl
  have S3 : Sh (mPut (mPut (mPut M 94 (iv M 93 3).toInt.toNat (.int p)) 95 (iv M 93 3).toInt.toNat (.int x)) 96 (iv M 93 3).toInt.toNat (.int v)) := S2.put (by decide) (by decide) rfl
  have hl : (iv M 93 3).toInt.toNat < 60 := by omega
  unfold hPutC
  refine ⟨by omega, ?_, fun k => ⟨?_, ?_, ?_⟩, fun c i a b d e => ?_⟩
  · rw [iv_put_eq S3 (by decide) (by decide) (by decide), i32_inc rH.1 (by omega)]
    omega
  · rw [iv_put_ne (Or.inl (by decide)), iv_put_ne (Or.inl (by decide)), iv_put_ne (Or.inl (by decide))]
    exact iv_put_if S0 (by decide) (by decide) hl
  · rw [iv_put_ne (Or.inl (by decide)), iv_put_ne (Or.inl (by decide)), iv_put_if S1 (by decide) (by decide) hl, iv_put_ne (Or.inl (by decide))]
  · rw [iv_put_ne (Or.inl (by decide)), iv_put_if S2 (by decide) (by decide) hl, iv_put_ne (Or.inl (by decide)), iv_put_ne (Or.inl (by decide))]
  · rw [mSlot_put_ne (by omega), mSlot_put_ne (Or.inl d), mSlot_put_ne (Or.inl b), mSlot_put_ne (Or.inl a)]
theorem hPutR_at {s : List Int32} {M : Mem} {p x v : Int32} {H : Nat} (hT : aTp s M) (hH : (iv M 181 15).toInt = (H : Int)) (h60 : H < 60) : (iv (hPutR M p x v) 181 15).toInt = (H : Int) + 1 ∧ (∀ k, iv (hPutR M p x v) 195 k = (if k = H then p else iv M 195 k) ∧ iv (hPutR M p x v) 196 k = (if k = H then x else iv M 196 k) ∧ iv (hPutR M p x v) 197 k = (if k = H then v else iv M 197 k)) ∧ ∀ c i, c ≠ 195 → c ≠ 196 → c ≠ 197 → ¬ (c = 181 ∧ i = 15) → mSlot (hPutR M p x v) c i = mSlot M c i := by
  have S0 := Sh.of hT
  have e : (iv M 181 15).toInt.toNat = H := by omega
  unfold hPutR
  rw [e]
  have S1 : Sh (mPut M 195 H (.int p)) := S0.put (by decide) (by decide) rfl
  have S2 : Sh (mPut (mPut M 195 H (.int p)) 196 H (.int x)) := S1.put (by decide) (by decide) rfl
  have S3 : Sh (mPut (mPut (mPut M 195 H (.int p)) 196 H (.int x)) 197 H (.int v)) := S2.put (by decide) (by decide) rfl
  refine ⟨?_, fun k => ⟨?_, ?_, ?_⟩, fun c i a b d e => ?_⟩
  · rw [iv_put_eq S3 (by decide) (by decide) (by decide), i32_inc (by omega) (by omega)]
    omega
  · rw [iv_put_ne (Or.inl (by decide)), iv_put_ne (Or.inl (by decide)), iv_put_ne (Or.inl (by decide))]
    exact iv_put_if S0 (by decide) (by decide) h60
  · rw [iv_put_ne (Or.inl (by decide)), iv_put_ne (Or.inl (by decide)), iv_put_if S1 (by decide) (by decide) h60, iv_put_ne (Or.inl (by decide))]
  · rw [iv_put_ne (Or.inl (by decide)), iv_put_if S2 (by decide) (by decide) h60, iv_put_ne (Or.inl (by decide)), iv_put_ne (Or.inl (by decide))]
  · rw [mSlot_put_ne (by omega), mSlot_put_ne (Or.inl d), mSlot_put_ne (Or.inl b), mSlot_put_ne (Or.inl a)]
theorem wPutR_at {s : List Int32} {M : Mem} {t q : Int32} {W : Nat} (hT : aTp s M) (hW : (iv M 181 16).toInt = (W : Int)) (h20 : W < 20) : (iv (wPutR M t q) 181 16).toInt = (W : Int) + 1 ∧ (∀ k, iv (wPutR M t q) 198 k = (if k = W then t else iv M 198 k) ∧ iv (wPutR M t q) 199 k = (if k = W then q else iv M 199 k)) ∧ ∀ c i, c ≠ 198 → c ≠ 199 → ¬ (c = 181 ∧ i = 16) → mSlot (wPutR M t q) c i = mSlot M c i := by
  have S0 := Sh.of hT
  have e : (iv M 181 16).toInt.toNat = W := by omega
  unfold wPutR
  rw [e]
  have S1 : Sh (mPut M 198 W (.int t)) := S0.put (by decide) (by decide) rfl
  have S2 : Sh (mPut (mPut M 198 W (.int t)) 199 W (.int q)) := S1.put (by decide) (by decide) rfl
  refine ⟨?_, fun k => ⟨?_, ?_⟩, fun c i a b e => ?_⟩
  · rw [iv_put_eq S2 (by decide) (by decide) (by decide), i32_inc (by omega) (by omega)]
    omega
  · rw [iv_put_ne (Or.inl (by decide)), iv_put_ne (Or.inl (by decide))]
    exact iv_put_if S0 (by decide) (by decide) h20
  · rw [iv_put_ne (Or.inl (by decide)), iv_put_if S1 (by decide) (by decide) h20, iv_put_ne (Or.inl (by decide))]
  · rw [mSlot_put_ne (by omega), mSlot_put_ne (Or.inl b), mSlot_put_ne (Or.inl a)]
/-- a well more is alike -/
theorem kA_well {M N : Mem} {t q : Int32} {W pl : Nat} (h : kHW M 93 195) (hW : (iv M 93 6).toInt = (W : Int)) (w20 : W < 20) (hc : (iv N 93 6).toInt = (W : Int) + 1) (hp : pl ≤ W) (h1 : pl = 0 ∨ (iv M 97 (pl - 1)).toInt ≤ t.toInt) (h2 : ∀ i, pl ≤ i → i < W → t.toInt < (iv M 97 i).toInt) (e : ∀ i, i < 20 → iv N 97 i = (if i < pl then iv M 97 i else if i = pl then t else if i ≤ W then iv M 97 (i - 1) else iv M 97 i) ∧ iv N 98 i = (if i < pl then iv M 98 i else if i = pl then q else if i ≤ W then iv M 98 (i - 1) else iv M 98 i)) (r : ∀ k, iv N 198 k = (if k = W then t else iv M 198 k) ∧ iv N 199 k = (if k = W then q else iv M 199 k)) (eh : iv N 93 3 = iv M 93 3 ∧ ∀ k, (iv N 94 k = iv M 94 k ∧ iv N 95 k = iv M 95 k ∧ iv N 96 k = iv M 96 k) ∧ iv N 195 k = iv M 195 k ∧ iv N 196 k = iv M 196 k ∧ iv N 197 k = iv M 197 k) : kHW N 93 195 := by
  obtain ⟨a, π, p1, p2⟩ := h
  have eW : (iv M 93 6).toInt.toNat = W := by omega
  rw [eW] at p1 p2
  have p1 : knP (fun k => (iv M 198 k).toInt) W π := p1
  have p2 : ∀ k, k < W → iv M 97 k = iv M 198 (π k) ∧ iv M 98 k = iv M 199 (π k) := p2
  have dN : ∀ k, k < W → iv N 198 k = iv M 198 k := fun k hk => by rw [(r k).1, if_neg (by omega)]
  have p3 : knP (fun k => (iv N 198 k).toInt) W π := knP_congr (fun k hk => by rw [dN k hk]) p1
  have tW : iv N 198 W = t := by rw [(r W).1, if_pos rfl]
  refine ⟨fun k hk => ?_, knN π pl W, ?_, fun k hk => ?_⟩
  · show iv N 94 k = iv N 195 k ∧ iv N 95 k = iv N 196 k ∧ iv N 96 k = iv N 197 k
    rw [eh.1] at hk
    obtain ⟨⟨e1, e2, e3⟩, e4, e5, e6⟩ := eh.2 k
    rw [e1, e2, e3, e4, e5, e6]
    exact a k hk
  · rw [show (iv N 93 6).toInt.toNat = W + 1 by omega]
    refine knP_new p3 hp (fun k hk => ?_) (fun k hk1 hk2 => ?_)
    · show (iv N 198 (π k)).toInt ≤ (iv N 198 W).toInt
      rw [tW, dN _ (p1.1 k (by omega))]
      rcases h1 with h1 | h1
      · omega
      · rw [(p2 (pl - 1) (by omega)).1] at h1
        by_cases c : k = pl - 1
        · rw [c]
          exact h1
        · have q := p1.2.2 k (pl - 1) (by omega) (by omega)
          have q : (iv M 198 (π k)).toInt < (iv M 198 (π (pl - 1))).toInt ∨ ((iv M 198 (π k)).toInt = (iv M 198 (π (pl - 1))).toInt ∧ π k < π (pl - 1)) := q
          omega
    · show (iv N 198 W).toInt < (iv N 198 (π k)).toInt
      rw [tW, dN _ (p1.1 k hk2), ← (p2 k hk2).1]
      exact h2 k hk1 hk2
  · rw [show (iv N 93 6).toInt.toNat = W + 1 by omega] at hk
    show iv N 97 k = iv N 198 (knN π pl W k) ∧ iv N 98 k = iv N 199 (knN π pl W k)
    obtain ⟨e1, e2⟩ := e k (by omega)
    rw [e1, e2]
    unfold knN
    by_cases c : k < pl
    · have pk := p1.1 k (by omega)
      rw [if_pos c, if_pos c, if_pos c, (r _).1, (r _).2, if_neg (by omega), if_neg (by omega)]
      exact p2 k (by omega)
    · rw [if_neg c, if_neg c, if_neg c]
      by_cases c2 : k = pl
      · rw [if_pos c2, if_pos c2, if_pos c2, (r _).1, (r _).2, if_pos rfl, if_pos rfl]
        exact ⟨rfl, rfl⟩
      · have pk := p1.1 (k - 1) (by omega)
        rw [if_neg c2, if_neg c2, if_neg c2, if_pos (show k ≤ W by omega), if_pos (show k ≤ W by omega), (r _).1, (r _).2, if_neg (by omega), if_neg (by omega)]
        exact p2 (k - 1) (by omega)
/-- the same column out of the reference's tables -/
theorem knO_ref {M N : Mem} {n d q : Nat} {π : Nat → Nat} (hA : AL M N n) (hd : d < n) (hq : q < 10) (eh : ∀ k : Nat, (k : Int) < (iv M 93 3).toInt → iv M 94 k = iv N 195 k ∧ iv M 95 k = iv N 196 k ∧ iv M 96 k = iv N 197 k) (h0 : 0 ≤ (iv M 93 3).toInt) (ew : ∀ k, k < (iv M 93 6).toInt.toNat → iv M 97 k = iv N 198 (π k) ∧ iv M 98 k = iv N 199 (π k)) (c15 : (iv N 181 15).toInt = (iv M 93 3).toInt) (c16 : (iv N 181 16).toInt = (iv M 93 6).toInt) : knO M d d q = knW (fun k => (iv N 198 (π k)).toInt) (fun k => (iv N 199 (π k)).toInt.toNat) (knH (fun k => (iv N 195 k).toInt) (fun k => (iv N 196 k).toInt) (fun k => (iv N 197 k).toInt) (d : Int) (knI (iv N 185 d).toInt (iv N 186 d).toInt (iv N 188 d).toInt) (iv N 181 15).toInt.toNat) (iv N 181 16).toInt.toNat q := by
  have f := (hA.2.2.2.1 d hd).1
  have f0 : (iv M (10 + d) 0).toInt = (iv N 185 d).toInt := f 0 (by decide) (by decide)
  have f1 : (iv M (10 + d) 1).toInt = (iv N 186 d).toInt := f 1 (by decide) (by decide)
  have f3 : (iv M (10 + d) 3).toInt = (iv N 188 d).toInt := f 3 (by decide) (by decide)
  unfold knO
  rw [f0, f1, f3, c15, c16]
  refine knW_congr (fun p hp => ?_) (fun k hk => ?_) q hq
  · refine knH_congr (P := 10) (fun _ _ => rfl) (fun k hk => ?_) p hp
    obtain ⟨a, b, c⟩ := eh k (by omega)
    rw [a, b, c]
    exact ⟨rfl, rfl, rfl⟩
  · obtain ⟨a, b⟩ := ew k hk
    rw [a, b]
    exact ⟨rfl, rfl⟩
theorem knA_same {g : Bool} {k u v : Int} (h1 : knA g k u) (h2 : knA g k v) : u = v := by
  rcases h1 with ⟨a, e1⟩ | ⟨a, b, e1⟩ | ⟨a, b, e1⟩
  · rcases h2 with ⟨_, e2⟩ | ⟨a2, _⟩ | ⟨a2, _⟩
    · rw [e1, e2]
    · rw [a] at a2; cases a2
    · rw [a] at a2; cases a2
  · rcases h2 with ⟨a2, _⟩ | ⟨_, _, e2⟩ | ⟨_, b2, _⟩
    · rw [a] at a2; cases a2
    · rw [e1, e2]
    · exact absurd b b2
  · rcases h2 with ⟨a2, _⟩ | ⟨_, b2, _⟩ | ⟨_, _, e2⟩
    · rw [a] at a2; cases a2
    · exact absurd b2 b
    · rw [e1, e2]

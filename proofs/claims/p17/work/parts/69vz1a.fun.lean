/-! the order of deeds: what is put in, taken out, copied (by hand) -/
theorem knP_ext {dy : Nat → Int} {W : Nat} {π π' : Nat → Nat} (h : knP dy W π) (e : ∀ k, k < W → π' k = π k) : knP dy W π' := by
  obtain ⟨a, b, c⟩ := h
  refine ⟨fun k hk => by rw [e k hk]; exact a k hk, fun i hi => ?_, fun k k' q1 q2 => by rw [e k (by omega), e k' q2]; exact c k k' q1 q2⟩
  obtain ⟨k, k1, k2⟩ := b i hi
  exact ⟨k, k1, by rw [e k k1]; exact k2⟩
/-- the last one is taken out -/
theorem knP_del {dy : Nat → Int} {W q : Nat} {π : Nat → Nat} (h : knP dy (W + 1) π) (hq : q < W + 1) (eq : π q = W) : knP dy W (fun k => if k < q then π k else π (k + 1)) := by
  obtain ⟨a, b, c⟩ := id h
  have ne : ∀ k, k < W + 1 → k ≠ q → π k ≠ W := fun k hk n e => n (knP_inj h hk hq (e.trans eq.symm))
  refine ⟨fun k hk => ?_, fun i hi => ?_, fun k k' q1 q2 => ?_⟩
  · show (if k < q then π k else π (k + 1)) < W
    by_cases w : k < q
    · rw [if_pos w]
      have := a k (by omega)
      have := ne k (by omega) (by omega)
      omega
    · rw [if_neg w]
      have := a (k + 1) (by omega)
      have := ne (k + 1) (by omega) (by omega)
      omega
  · obtain ⟨k, k1, k2⟩ := b i (by omega)
    by_cases w : k < q
    · exact ⟨k, by omega, by show (if k < q then π k else π (k + 1)) = i; rw [if_pos w]; exact k2⟩
    · have w2 : k ≠ q := fun e => by
        rw [e, eq] at k2
        omega
      exact ⟨k - 1, by omega, by show (if k - 1 < q then π (k - 1) else π (k - 1 + 1)) = i; rw [if_neg (by omega), show k - 1 + 1 = k by omega]; exact k2⟩
  · show knLx dy (if k < q then π k else π (k + 1)) (if k' < q then π k' else π (k' + 1))
    by_cases w : k < q
    · rw [if_pos w]
      by_cases w2 : k' < q
      · rw [if_pos w2]
        exact c k k' q1 (by omega)
      · rw [if_neg w2]
        exact c k (k' + 1) (by omega) (by omega)
    · rw [if_neg w, if_neg (by omega)]
      exact c (k + 1) (k' + 1) (by omega) (by omega)
/-- there is one order alone -/
theorem knP_uniq {dy : Nat → Int} {W : Nat} {π π' : Nat → Nat} (h : knP dy W π) (h' : knP dy W π') : ∀ m, m ≤ W → ∀ k, k < m → π k = π' k := by
  intro m
  induction m with
  | zero => intro _ k hk; exact absurd hk (Nat.not_lt_zero k)
  | succ m ih =>
    intro hm k hk
    have ih := ih (by omega)
    by_cases c : k = m
    · subst c
      refine (knP_next h (m := k) (b := π' k) (h'.1 k (by omega)) (fun j hj e => ?_) (fun i hi hn hne => ?_)).2
      · rw [ih j hj] at e
        have := knP_inj h' (a := j) (b := k) (by omega) (by omega) e
        omega
      · obtain ⟨j, j1, j2⟩ := h'.2.1 i hi
        have j3 : ¬ j < k := fun q => hn j q ((ih j q).trans j2)
        have j4 : j ≠ k := fun q => hne (by rw [← j2, q])
        have r := h'.2.2 k j (by omega) j1
        rw [j2] at r
        exact r
    · exact ih k (by omega)
/-- a new deed is put in -/
theorem okL_new {M N : Mem} {W pl : Nat} {x : Int32} (h : okL M 7 10 9) (hW : (iv M 7 2).toInt = (W : Int)) (w40 : W < 40) (hN : (iv N 7 2).toInt = (W : Int) + 1) (hp : pl ≤ W) (hd : ∀ d, d < W → iv N (10 + d) 3 = iv M (10 + d) 3) (hx : iv N (10 + W) 3 = x) (o1 : ∀ k, k < pl → iv N 9 k = iv M 9 k) (o2 : (iv N 9 pl).toInt = (W : Int)) (o3 : ∀ k, pl < k → k ≤ W → iv N 9 k = iv M 9 (k - 1)) (h1 : pl = 0 ∨ (iv M (10 + (iv M 9 (pl - 1)).toInt.toNat) 3).toInt ≤ x.toInt) (h2 : ∀ k, pl ≤ k → k < W → x.toInt < (iv M (10 + (iv M 9 k).toInt.toNat) 3).toInt) : okL N 7 10 9 := by
  unfold okL at h ⊢
  rw [hW, show ((W : Int)).toNat = W by omega] at h
  rw [hN, show ((W : Int) + 1).toNat = W + 1 by omega]
  refine ⟨by omega, ?_⟩
  have hq : knP (fun d => (iv N (10 + d) 3).toInt) W (fun k => (iv M 9 k).toInt.toNat) := knP_congr (fun k hk => by rw [hd k hk]) h.2
  have p1 : ∀ k, k < pl → (iv N (10 + (iv M 9 k).toInt.toNat) 3).toInt ≤ (iv N (10 + W) 3).toInt := fun k hk => by
    have a := h.2.1 k (by omega)
    have a : (iv M 9 k).toInt.toNat < W := a
    rw [hx, hd _ a]
    rcases h1 with q | q
    · omega
    · by_cases c : k = pl - 1
      · rw [c]
        exact q
      · have s := h.2.2.2 k (pl - 1) (by omega) (by omega)
        have s : (iv M (10 + (iv M 9 k).toInt.toNat) 3).toInt < (iv M (10 + (iv M 9 (pl - 1)).toInt.toNat) 3).toInt ∨ ((iv M (10 + (iv M 9 k).toInt.toNat) 3).toInt = (iv M (10 + (iv M 9 (pl - 1)).toInt.toNat) 3).toInt ∧ _) := s
        omega
  have p2 : ∀ k, pl ≤ k → k < W → (iv N (10 + W) 3).toInt < (iv N (10 + (iv M 9 k).toInt.toNat) 3).toInt := fun k k1 k2 => by
    have a : (iv M 9 k).toInt.toNat < W := h.2.1 k k2
    rw [hx, hd _ a]
    exact h2 k k1 k2
  have r := knP_new (pl := pl) hq hp p1 p2
  refine knP_ext r (fun k hk => ?_)
  show (iv N 9 k).toInt.toNat = knN (fun k => (iv M 9 k).toInt.toNat) pl W k
  unfold knN
  by_cases c : k < pl
  · rw [if_pos c, o1 k c]
  · rw [if_neg c]
    by_cases c2 : k = pl
    · rw [if_pos c2, c2]
      omega
    · rw [if_neg c2, o3 k (by omega) (by omega)]
/-- the last one is dropped -/
theorem okL_del {M N : Mem} {W q : Nat} (h : okL M 7 10 9) (hW : (iv M 7 2).toInt = (W : Int) + 1) (hN : (iv N 7 2).toInt = (W : Int)) (hd : ∀ d, d < W → iv N (10 + d) 3 = iv M (10 + d) 3) (hq : q < W + 1) (eq : (iv M 9 q).toInt.toNat = W) (o : ∀ k, k < W → iv N 9 k = (if k < q then iv M 9 k else iv M 9 (k + 1))) : okL N 7 10 9 := by
  unfold okL at h ⊢
  rw [hW, show ((W : Int) + 1).toNat = W + 1 by omega] at h
  rw [hN, show ((W : Int)).toNat = W by omega]
  refine ⟨by omega, ?_⟩
  have r := knP_del h.2 hq eq
  refine knP_ext (knP_congr (fun k hk => by rw [hd k hk]) r) (fun k hk => ?_)
  show (iv N 9 k).toInt.toNat = (if k < q then (iv M 9 k).toInt.toNat else (iv M 9 (k + 1)).toInt.toNat)
  rw [o k hk]
  by_cases c : k < q
  · rw [if_pos c, if_pos c]
  · rw [if_neg c, if_neg c]
/-- one is copied to the other -/
theorem okL_cpy {M N : Mem} {c b o c' b' o' : Nat} (h : okL M c b o) (h1 : iv N c' 2 = iv M c 2) (h2 : ∀ k : Nat, (k : Int) < (iv M c 2).toInt → iv N o' k = iv M o k) (h3 : ∀ d : Nat, (d : Int) < (iv M c 2).toInt → iv N (b' + d) 3 = iv M (b + d) 3) : okL N c' b' o' := by
  unfold okL at h ⊢
  rw [h1]
  refine ⟨h.1, ?_⟩
  exact knP_ext (knP_congr (fun d hd => by rw [h3 d (by omega)]) h.2) (fun k hk => by rw [h2 k (by omega)])

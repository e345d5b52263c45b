/-! a chain is walked: what it comes to (by hand) -/
theorem i32_natIf : ∀ b, b < 64 → (Int32.ofNat b).toInt = (b : Int) := by decide +kernel
theorem i32_natI {b : Nat} (h : b < 64) : (Int32.ofNat b).toInt = (b : Int) := i32_natIf b h
/-- the best of the places from a on, k of them looked at -/
def bstN (off : Nat → Bool) (ov : Nat → Nat → Bool) (π : Nat → Nat) (a : Nat) : Nat → Option Nat
  | 0 => none
  | k + 1 => bif off (π (a + k)) then (match bstN off ov π a k with
      | none => some (a + k)
      | some b => bif ov (π b) (π (a + k)) then some (a + k) else some b) else bstN off ov π a k
theorem bstN_s0 {off : Nat → Bool} {ov : Nat → Nat → Bool} {π : Nat → Nat} {a k : Nat} (h : off (π (a + k)) = false) : bstN off ov π a (k + 1) = bstN off ov π a k := by
  show (bif off (π (a + k)) then _ else bstN off ov π a k) = _
  rw [h]
  rfl
theorem bstN_s1 {off : Nat → Bool} {ov : Nat → Nat → Bool} {π : Nat → Nat} {a k : Nat} (h : off (π (a + k)) = true) (h2 : bstN off ov π a k = none) : bstN off ov π a (k + 1) = some (a + k) := by
  show (bif off (π (a + k)) then (match bstN off ov π a k with
      | none => some (a + k)
      | some b => bif ov (π b) (π (a + k)) then some (a + k) else some b) else bstN off ov π a k) = _
  rw [h, h2]
  rfl
theorem bstN_s2 {off : Nat → Bool} {ov : Nat → Nat → Bool} {π : Nat → Nat} {a k b : Nat} (h : off (π (a + k)) = true) (h2 : bstN off ov π a k = some b) : bstN off ov π a (k + 1) = (bif ov (π b) (π (a + k)) then some (a + k) else some b) := by
  show (bif off (π (a + k)) then (match bstN off ov π a k with
      | none => some (a + k)
      | some b => bif ov (π b) (π (a + k)) then some (a + k) else some b) else bstN off ov π a k) = _
  rw [h, h2]
  rfl
theorem bstN_rng {off : Nat → Bool} {ov : Nat → Nat → Bool} {π : Nat → Nat} {a : Nat} : ∀ k b, bstN off ov π a k = some b → a ≤ b ∧ b < a + k := by
  intro k
  induction k with
  | zero => intro b h; cases h
  | succ k ih =>
    intro b h
    cases ho : off (π (a + k)) with
    | false =>
      rw [bstN_s0 ho] at h
      have := ih b h
      omega
    | true =>
      cases h2 : bstN off ov π a k with
      | none =>
        rw [bstN_s1 ho h2] at h
        cases h
        omega
      | some c =>
        rw [bstN_s2 ho h2] at h
        have := ih c h2
        cases q : ov (π c) (π (a + k)) with
        | true =>
          rw [q] at h
          have h : some (a + k) = some b := h
          cases h
          omega
        | false =>
          rw [q] at h
          have h : some c = some b := h
          cases h
          omega
/-- what has been looked at -/
def lkN (off : Nat → Bool) (π : Nat → Nat) (a : Nat) (q : Nat → Bool) : Nat → Nat → Bool
  | 0 => q
  | k + 1 => fun d => lkN off π a q k d || (off (π (a + k)) && decide (π (a + k) = d))
theorem lkN_s0 {off : Nat → Bool} {π : Nat → Nat} {a k d : Nat} {q : Nat → Bool} (h : off (π (a + k)) = false) : lkN off π a q (k + 1) d = lkN off π a q k d := by
  show (lkN off π a q k d || (off (π (a + k)) && decide (π (a + k) = d))) = _
  rw [h, Bool.false_and, Bool.or_false]
theorem lkN_s1 {off : Nat → Bool} {π : Nat → Nat} {a k d : Nat} {q : Nat → Bool} (h : off (π (a + k)) = true) : lkN off π a q (k + 1) d = (lkN off π a q k d || decide (π (a + k) = d)) := by
  show (lkN off π a q k d || (off (π (a + k)) && decide (π (a + k) = d))) = _
  rw [h, Bool.true_and]
abbrev FL : Type := Int32 × List Nat × (Nat → Bool)
/-- who holds, by which deeds, what was looked at -/
def flwF (off : Int32 → Nat → Bool) (ov : Nat → Nat → Bool) (tk : Nat → Int32) (π : Nat → Nat) (n : Nat) : Nat → Int32 → Nat → List Nat → (Nat → Bool) → FL
  | 0, now, _, l, q => (now, l, q)
  | f + 1, now, a, l, q => match bstN (off now) ov π a (n - a) with
      | none => (now, l, lkN (off now) π a q (n - a))
      | some b => flwF off ov tk π n f (tk (π b)) (b + 1) (l ++ [π b]) (lkN (off now) π a q (n - a))
section
variable {off : Int32 → Nat → Bool} {ov : Nat → Nat → Bool} {tk : Nat → Int32} {π : Nat → Nat} {n : Nat}
theorem flwF_none {f : Nat} {now : Int32} {a : Nat} {l : List Nat} {q : Nat → Bool} (hf : n - a ≤ f) (h : bstN (off now) ov π a (n - a) = none) : flwF off ov tk π n f now a l q = (now, l, lkN (off now) π a q (n - a)) := by
  cases f with
  | zero =>
    rw [show n - a = 0 by omega]
    rfl
  | succ f =>
    show (match bstN (off now) ov π a (n - a) with
      | none => (now, l, lkN (off now) π a q (n - a))
      | some b => flwF off ov tk π n f (tk (π b)) (b + 1) (l ++ [π b]) (lkN (off now) π a q (n - a))) = _
    simp only [h]
theorem flwF_s {f : Nat} {now : Int32} {a b : Nat} {l : List Nat} {q : Nat → Bool} (h : bstN (off now) ov π a (n - a) = some b) : flwF off ov tk π n (f + 1) now a l q = flwF off ov tk π n f (tk (π b)) (b + 1) (l ++ [π b]) (lkN (off now) π a q (n - a)) := by
  show (match bstN (off now) ov π a (n - a) with
      | none => (now, l, lkN (off now) π a q (n - a))
      | some b => flwF off ov tk π n f (tk (π b)) (b + 1) (l ++ [π b]) (lkN (off now) π a q (n - a))) = _
  simp only [h]
theorem flwF_fuel : ∀ (f g : Nat) {now : Int32} {a : Nat} {l : List Nat} {q : Nat → Bool}, n - a ≤ f → n - a ≤ g → flwF off ov tk π n f now a l q = flwF off ov tk π n g now a l q := by
  intro f
  induction f with
  | zero =>
    intro g now a l q h1 h2
    have e : bstN (off now) ov π a (n - a) = none := by
      rw [show n - a = 0 by omega]
      rfl
    rw [flwF_none h1 e, flwF_none h2 e]
  | succ f ih =>
    intro g now a l q h1 h2
    cases e : bstN (off now) ov π a (n - a) with
    | none => rw [flwF_none h1 e, flwF_none h2 e]
    | some b =>
      have := bstN_rng _ _ e
      cases g with
      | zero => omega
      | succ g =>
        rw [flwF_s e, flwF_s e]
        exact ih g (by omega) (by omega)
end
/-- the whole walk from a state on -/
def flw (off : Int32 → Nat → Bool) (ov : Nat → Nat → Bool) (tk : Nat → Int32) (π : Nat → Nat) (n : Nat) (now : Int32) (a : Nat) (l : List Nat) (q : Nat → Bool) : FL := flwF off ov tk π n (n - a) now a l q
section
variable {off : Int32 → Nat → Bool} {ov : Nat → Nat → Bool} {tk : Nat → Int32} {π : Nat → Nat} {n : Nat} {now : Int32} {a : Nat} {l : List Nat} {q : Nat → Bool}
theorem flw_none (h : bstN (off now) ov π a (n - a) = none) : flw off ov tk π n now a l q = (now, l, lkN (off now) π a q (n - a)) := flwF_none (Nat.le_refl _) h
theorem flw_end (h : n ≤ a) : flw off ov tk π n now a l q = (now, l, q) := by
  have e : n - a = 0 := by omega
  have w : bstN (off now) ov π a (n - a) = none := by
    rw [e]
    rfl
  rw [flw_none w, e]
  rfl
theorem flw_some {b : Nat} (h : bstN (off now) ov π a (n - a) = some b) : flw off ov tk π n now a l q = flw off ov tk π n (tk (π b)) (b + 1) (l ++ [π b]) (lkN (off now) π a q (n - a)) := by
  have r := bstN_rng _ _ h
  unfold flw
  obtain ⟨m, em⟩ : ∃ m, n - a = m + 1 := ⟨n - a - 1, by omega⟩
  rw [flwF_fuel (n - a) (m + 1) (Nat.le_refl _) (by omega), flwF_s h]
  exact flwF_fuel _ _ (by omega) (by omega)
end
theorem flwF_len {off : Int32 → Nat → Bool} {ov : Nat → Nat → Bool} {tk : Nat → Int32} {π : Nat → Nat} {n : Nat} : ∀ (f : Nat) (now : Int32) (a : Nat) (l : List Nat) (q : Nat → Bool), (flwF off ov tk π n f now a l q).2.1.length ≤ l.length + (n - a) := by
  intro f
  induction f with
  | zero => intro now a l q; exact Nat.le_add_right _ _
  | succ f ih =>
    intro now a l q
    cases e : bstN (off now) ov π a (n - a) with
    | none =>
      have w : flwF off ov tk π n (f + 1) now a l q = (now, l, lkN (off now) π a q (n - a)) := by
        show (match bstN (off now) ov π a (n - a) with
          | none => (now, l, lkN (off now) π a q (n - a))
          | some b => flwF off ov tk π n f (tk (π b)) (b + 1) (l ++ [π b]) (lkN (off now) π a q (n - a))) = _
        simp only [e]
      rw [w]
      exact Nat.le_add_right _ _
    | some b =>
      have r := bstN_rng _ _ e
      rw [flwF_s e]
      have := ih (tk (π b)) (b + 1) (l ++ [π b]) (lkN (off now) π a q (n - a))
      rw [List.length_append, show [π b].length = 1 from rfl] at this
      omega
/-- what alike questions come to -/
theorem bstN_cg {off off' : Nat → Bool} {ov ov' : Nat → Nat → Bool} {π π' : Nat → Nat} {a : Nat} : ∀ k, (∀ i, i < a + k → π i = π' i) → (∀ i, i < a + k → off (π' i) = off' (π' i)) → (∀ i j, i < a + k → j < a + k → ov (π' i) (π' j) = ov' (π' i) (π' j)) → bstN off ov π a k = bstN off' ov' π' a k := by
  intro k
  induction k with
  | zero => intro _ _ _; rfl
  | succ k ih =>
    intro h1 h2 h3
    have ih := ih (fun i hi => h1 i (by omega)) (fun i hi => h2 i (by omega)) (fun i j hi hj => h3 i j (by omega) (by omega))
    have e : off (π (a + k)) = off' (π' (a + k)) := by rw [h1 _ (by omega), h2 _ (by omega)]
    cases ho : off' (π' (a + k)) with
    | false =>
      rw [bstN_s0 ho, bstN_s0 (e.trans ho)]
      exact ih
    | true =>
      cases hb : bstN off' ov' π' a k with
      | none => rw [bstN_s1 ho hb, bstN_s1 (e.trans ho) (ih.trans hb)]
      | some b =>
        have := bstN_rng _ _ hb
        rw [bstN_s2 ho hb, bstN_s2 (e.trans ho) (ih.trans hb), h1 b (by omega), h1 (a + k) (by omega), h3 b (a + k) (by omega) (by omega)]
/-- a place or none, as the programs tell it -/
def obI : Option Nat → Int32
  | none => -1
  | some b => Int32.ofNat b
theorem obI_n {x : Int32} {o : Option Nat} (h : x = obI o) (hb : ∀ b, o = some b → b < 40) : (x.toInt = -1 ↔ o = none) ∧ ∀ b, o = some b → x.toInt = (b : Int) := by
  cases o with
  | none => exact ⟨⟨fun _ => rfl, fun _ => by rw [h]; rfl⟩, fun b q => by cases q⟩
  | some b =>
    have e : x.toInt = (b : Int) := by
      rw [h]
      exact i32_natI (by have := hb b rfl; omega)
    exact ⟨⟨fun q => by omega, fun q => by cases q⟩, fun c q => by cases q; exact e⟩
/-- the order of the deeds -/
def ordF (M : Mem) (k : Nat) : Nat := (iv M 9 k).toInt.toNat
def ordC (M : Mem) : Prop := (∀ k, k < 40 → 0 ≤ (iv M 9 k).toInt ∧ (iv M 9 k).toInt ≤ 39) ∧ okLs M
theorem ordC_n {M : Mem} (h : ordC M) : nC M ≤ 40 := by
  have := h.2.1.1
  unfold nC
  omega
theorem ordC_lt {M : Mem} (h : ordC M) {k : Nat} (hk : k < nC M) : ordF M k < nC M := h.2.1.2.1 k hk
theorem ordC_i {M : Mem} (h : ordC M) {k : Nat} (hk : k < 40) : (iv M 9 k).toInt = (ordF M k : Int) := by
  have := h.1 k hk
  unfold ordF
  omega
/-- those that are asked for a person's strip -/
def offS (M : Mem) (st : Nat → Bool) (now : Int32) (d : Nat) : Bool := st d && decide ((iv M (10 + d) 0).toInt = now.toInt)
/-- those that stand: of all of the strip, by a day -/
def stgF (M : Mem) (s t : Int32) (d : Nat) : Bool := bKs M d s && bGd M d s t
theorem tb_sF {M : Mem} {s t : Int32} : ∀ k, k ≤ 40 → ∀ d, d < 64 → tbL (sFold M s t k) d = (decide (d < k) && stgF M s t d) := by
  intro k
  induction k with
  | zero =>
    intro _ d hd
    show tbL 0 d = _
    rw [tb_0, decide_eq_false (Nat.not_lt_zero d)]
    rfl
  | succ k ih =>
    intro hk d hd
    have ih := ih (by omega) d hd
    have hx : (Int32.ofNat k).toInt = (k : Int) := i32_natI (by omega)
    by_cases c : k = d
    · have d0 : decide (d < k) = false := decide_eq_false (by omega)
      have d1 : decide (d < k + 1) = true := decide_eq_true (by omega)
      rw [d0, Bool.false_and] at ih
      rw [d1, Bool.true_and]
      show tbL (bif bKs M k s then (bif bGd M k s t then sFold M s t k ||| bit1 (Int32.ofNat k) else sFold M s t k &&& (bit1 (Int32.ofNat k) ^^^ -1)) else sFold M s t k) d = (bKs M d s && bGd M d s t)
      rw [← c] at ih ⊢
      cases h1 : bKs M k s with
      | false => exact ih
      | true =>
        cases h2 : bGd M k s t with
        | true =>
          show tbL (sFold M s t k ||| bit1 (Int32.ofNat k)) k = true
          rw [tb_lor hx (by omega), decide_eq_true rfl, Bool.or_true]
        | false =>
          show tbL (sFold M s t k &&& (bit1 (Int32.ofNat k) ^^^ -1)) k = false
          rw [tb_off hx (by omega) (by omega), decide_eq_true rfl]
          exact Bool.and_false _
    · have d1 : decide (d < k + 1) = decide (d < k) := by
        by_cases q : d < k
        · rw [decide_eq_true q, decide_eq_true (by omega)]
        · rw [decide_eq_false q, decide_eq_false (by omega)]
      rw [d1, ← ih]
      show tbL (bif bKs M k s then (bif bGd M k s t then sFold M s t k ||| bit1 (Int32.ofNat k) else sFold M s t k &&& (bit1 (Int32.ofNat k) ^^^ -1)) else sFold M s t k) d = tbL (sFold M s t k) d
      cases h1 : bKs M k s with
      | false => rfl
      | true =>
        cases h2 : bGd M k s t with
        | true =>
          show tbL (sFold M s t k ||| bit1 (Int32.ofNat k)) d = _
          rw [tb_lor hx (by omega), decide_eq_false c, Bool.or_false]
        | false =>
          show tbL (sFold M s t k &&& (bit1 (Int32.ofNat k) ^^^ -1)) d = _
          rw [tb_off hx (by omega) hd, decide_eq_false c]
          exact Bool.and_true _
/-- the chain of a strip by a day -/
noncomputable def chF (M : Mem) (W : Nat → WL) (st : Nat → Bool) (s t : Int32) : FL := flw (offS M st) (btF M W s t 98) (fun d => iv M (10 + d) 1) (ordF M) (nC M) (iv M 5 s.toInt.toNat) 0 [] (fun _ => false)
noncomputable def holdF (M : Mem) (W : Nat → WL) (s t : Int32) : FL := chF M W (stgF M s t) s t
theorem holdF_len {M : Mem} {W : Nat → WL} {s t : Int32} : (holdF M W s t).2.1.length ≤ nC M := by
  have h := flwF_len (off := offS M (stgF M s t)) (ov := btF M W s t 98) (tk := fun d => iv M (10 + d) 1) (π := ordF M) (n := nC M) (nC M - 0) (iv M 5 s.toInt.toNat) 0 [] (fun _ => false)
  show (flwF (offS M (stgF M s t)) (btF M W s t 98) (fun d => iv M (10 + d) 1) (ordF M) (nC M) (nC M - 0) (iv M 5 s.toInt.toNat) 0 [] (fun _ => false)).2.1.length ≤ nC M
  have e : ([] : List Nat).length = 0 := rfl
  omega

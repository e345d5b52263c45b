/-! programs: what they come to (by hand) -/
abbrev EV : Type := Nat × Nat × (Nat → Int32)
def sUp (s : Nat → Int32) (i : Nat) (v : Int32) : Nat → Int32 := fun k => if k = i then v else s k
theorem sUp_eq {s : Nat → Int32} {i : Nat} {v : Int32} : sUp s i v i = v := if_pos rfl
theorem sUp_ne {s : Nat → Int32} {i k : Nat} {v : Int32} (h : k ≠ i) : sUp s i v k = s k := if_neg h
/-- a sign between two numbers -/
def rkO (op : Int) (x y : Int32) : Int32 :=
  if op = 2 then x + y else if op = 3 then x - y else if op = 4 then x * y else if op = 5 then x / y else if op = 6 then x - x / y * y
  else if op = 7 then (if x.toInt < y.toInt then 1 else 0) else if op = 8 then (if y.toInt < x.toInt then 1 else 0) else (if x.toInt = y.toInt then 1 else 0)
/-- a program's run: at a code, so many numbers, which -/
def ev (F : Nat → Int) (fc : Nat → Int32) (C : Nat) : Nat → EV → Option Int32
  | 0, _ => none
  | k + 1, (i, n, s) =>
    if C ≤ i then some (s 0)
    else if cOp (F i) = 0 then ev F fc C k (i + 1, n + 1, sUp s n (Int32.ofInt (cAr (F i))))
    else if cOp (F i) = 1 then ev F fc C k (i + 1, n + 1, sUp s n (fc (cAr (F i)).toNat))
    else if cOp (F i) = 10 then ev F fc C k (i + 1, n, sUp s (n - 1) (1 - s (n - 1)))
    else if cOp (F i) = 11 ∨ cOp (F i) = 12 then (if (s (n - 1)).toInt = (if cOp (F i) = 12 then 1 else 0) then ev F fc C k ((cAr (F i)).toNat, n, s) else ev F fc C k (i + 1, n - 1, s))
    else if (cOp (F i) = 5 ∨ cOp (F i) = 6) ∧ s (n - 1) = 0 then some 0
    else ev F fc C k (i + 1, n - 1, sUp s (n - 2) (rkO (cOp (F i)) (s (n - 2)) (s (n - 1))))
section
variable {F : Nat → Int} {fc : Nat → Int32} {C : Nat}
theorem ev_end {k i n : Nat} {s : Nat → Int32} (h : C ≤ i) : ev F fc C (k + 1) (i, n, s) = some (s 0) := if_pos h
theorem ev_num {k i n : Nat} {s : Nat → Int32} (h : i < C) (ho : cOp (F i) = 0) : ev F fc C (k + 1) (i, n, s) = ev F fc C k (i + 1, n + 1, sUp s n (Int32.ofInt (cAr (F i)))) := by
  show (if _ then _ else _) = _
  rw [if_neg (by omega), if_pos ho]
theorem ev_let {k i n : Nat} {s : Nat → Int32} (h : i < C) (ho : cOp (F i) = 1) : ev F fc C (k + 1) (i, n, s) = ev F fc C k (i + 1, n + 1, sUp s n (fc (cAr (F i)).toNat)) := by
  show (if _ then _ else _) = _
  rw [if_neg (by omega), if_neg (by omega), if_pos ho]
theorem ev_not {k i n : Nat} {s : Nat → Int32} (h : i < C) (ho : cOp (F i) = 10) : ev F fc C (k + 1) (i, n, s) = ev F fc C k (i + 1, n, sUp s (n - 1) (1 - s (n - 1))) := by
  show (if _ then _ else _) = _
  rw [if_neg (by omega), if_neg (by omega), if_neg (by omega), if_pos ho]
theorem ev_jmp {k i n : Nat} {s : Nat → Int32} (h : i < C) (ho : cOp (F i) = 11 ∨ cOp (F i) = 12) : ev F fc C (k + 1) (i, n, s) = (if (s (n - 1)).toInt = (if cOp (F i) = 12 then 1 else 0) then ev F fc C k ((cAr (F i)).toNat, n, s) else ev F fc C k (i + 1, n - 1, s)) := by
  show (if _ then _ else _) = _
  rw [if_neg (by omega), if_neg (by omega), if_neg (by omega), if_neg (by omega), if_pos ho]
theorem ev_rk {k i n : Nat} {s : Nat → Int32} (h : i < C) (ho : 2 ≤ cOp (F i) ∧ cOp (F i) ≤ 9) : ev F fc C (k + 1) (i, n, s) = (if (cOp (F i) = 5 ∨ cOp (F i) = 6) ∧ s (n - 1) = 0 then some 0 else ev F fc C k (i + 1, n - 1, sUp s (n - 2) (rkO (cOp (F i)) (s (n - 2)) (s (n - 1))))) := by
  show (if _ then _ else _) = _
  rw [if_neg (by omega), if_neg (by omega), if_neg (by omega), if_neg (by omega), if_neg (by omega)]
theorem ev_up {v : Int32} : ∀ {k : Nat} {S : EV}, ev F fc C k S = some v → ev F fc C (k + 1) S = some v
  | 0, _, h => nomatch h
  | k + 1, (i, n, s), h => by
    by_cases c : C ≤ i
    · rw [ev_end c] at h ⊢
      exact h
    by_cases c0 : cOp (F i) = 0
    · rw [ev_num (by omega) c0] at h ⊢
      exact ev_up h
    by_cases c1 : cOp (F i) = 1
    · rw [ev_let (by omega) c1] at h ⊢
      exact ev_up h
    by_cases c2 : cOp (F i) = 10
    · rw [ev_not (by omega) c2] at h ⊢
      exact ev_up h
    by_cases c3 : cOp (F i) = 11 ∨ cOp (F i) = 12
    · rw [ev_jmp (by omega) c3] at h ⊢
      by_cases c4 : (s (n - 1)).toInt = (if cOp (F i) = 12 then 1 else 0)
      · rw [if_pos c4] at h ⊢
        exact ev_up h
      · rw [if_neg c4] at h ⊢
        exact ev_up h
    · unfold ev at h ⊢
      rw [if_neg c, if_neg c0, if_neg c1, if_neg c2, if_neg c3] at h ⊢
      by_cases c4 : (cOp (F i) = 5 ∨ cOp (F i) = 6) ∧ s (n - 1) = 0
      · rw [if_pos c4] at h ⊢
        exact h
      · rw [if_neg c4] at h ⊢
        exact ev_up h
theorem ev_ups {v : Int32} {k : Nat} {S : EV} (h : ev F fc C k S = some v) : ∀ j, ev F fc C (k + j) S = some v
  | 0 => h
  | j + 1 => ev_up (ev_ups h j)
theorem ev_one {v v' : Int32} {k k' : Nat} {S : EV} (h : ev F fc C k S = some v) (h' : ev F fc C k' S = some v') : v = v' := by
  have a := ev_ups h k'
  have b := ev_ups h' k
  rw [Nat.add_comm k' k, a] at b
  exact Option.some.inj b
/-- what stands below n alone matters -/
theorem ev_same {v : Int32} {ty : Nat → Int} {b0 : Nat} (hty : ∀ i, b0 ≤ i → i < C → tyOk F ty (fun _ => False) C i) (hC : ty C = 1 ∨ ty C = -1) : ∀ {k i n : Nat} {s s' : Nat → Int32}, b0 ≤ i → i ≤ C → (n : Int) = (if ty i = -1 then 1 else ty i) → (∀ j, j < n → s' j = s j) → ev F fc C k (i, n, s) = some v → ev F fc C k (i, n, s') = some v
  | 0, _, _, _, _, _, _, _, _, h => nomatch h
  | k + 1, i, n, s, s', h0, h1, hn, hs, h => by
    by_cases c : C ≤ i
    · have e : i = C := by omega
      subst e
      have n1 : n = 1 := by
        rcases hC with q | q
        · rw [q, if_neg (by omega)] at hn
          omega
        · rw [q, if_pos rfl] at hn
          omega
      rw [ev_end c] at h ⊢
      rw [hs 0 (by omega)]
      exact h
    rcases hty i h0 (by omega) with ⟨a, b, d⟩ | ⟨a, b, d⟩ | ⟨a, b, d⟩ | ⟨a, b, d⟩ | ⟨a, b, d, q⟩
    · have nn : n = (ty i).toNat := by
        rw [if_neg (by omega)] at hn
        omega
      have n2 : ((n + 1 : Nat) : Int) = (if ty (i + 1) = -1 then 1 else ty (i + 1)) := by
        rw [if_neg (by omega)]
        omega
      have up : ∀ x j, j < n + 1 → sUp s' n x j = sUp s n x j := fun x j hj => by
        by_cases e : j = n
        · rw [e, sUp_eq, sUp_eq]
        · rw [sUp_ne e, sUp_ne e, hs j (by omega)]
      rcases a with a | a
      · rw [ev_num (by omega) a] at h ⊢
        exact ev_same hty hC (by omega) (by omega) n2 (up _) h
      · rw [ev_let (by omega) a.1] at h ⊢
        exact ev_same hty hC (by omega) (by omega) n2 (up _) h
    · rw [if_neg (by omega)] at hn
      have n2 : ((n - 1 : Nat) : Int) = (if ty (i + 1) = -1 then 1 else ty (i + 1)) := by
        rw [if_neg (by omega)]
        omega
      rw [ev_rk (by omega) (by omega)] at h ⊢
      rw [hs (n - 1) (by omega), hs (n - 2) (by omega)]
      by_cases z : (cOp (F i) = 5 ∨ cOp (F i) = 6) ∧ s (n - 1) = 0
      · rw [if_pos z] at h ⊢
        exact h
      · rw [if_neg z] at h ⊢
        refine ev_same hty hC (by omega) (by omega) n2 (fun j hj => ?_) h
        by_cases e : j = n - 2
        · rw [e, sUp_eq, sUp_eq]
        · rw [sUp_ne e, sUp_ne e, hs j (by omega)]
    · rw [if_neg (by omega)] at hn
      have n2 : ((n - 1 : Nat) : Int) = (if ty (i + 1) = -1 then 1 else ty (i + 1)) := by
        rw [if_pos d]
        omega
      rw [ev_rk (by omega) (by omega)] at h ⊢
      rw [hs (n - 1) (by omega), hs (n - 2) (by omega)]
      rw [if_neg (by omega)] at h ⊢
      refine ev_same hty hC (by omega) (by omega) n2 (fun j hj => ?_) h
      by_cases e : j = n - 2
      · rw [e, sUp_eq, sUp_eq]
      · rw [sUp_ne e, sUp_ne e, hs j (by omega)]
    · rw [if_pos b] at hn
      rw [ev_not (by omega) a] at h ⊢
      rw [hs (n - 1) (by omega)]
      refine ev_same hty hC (by omega) (by omega) (by rw [if_pos d]; exact hn) (fun j hj => ?_) h
      by_cases e : j = n - 1
      · rw [e, sUp_eq, sUp_eq]
      · rw [sUp_ne e, sUp_ne e, hs j (by omega)]
    · rw [if_pos b] at hn
      obtain ⟨v0, v1, v2, v3, v4⟩ := q.resolve_left id
      rw [ev_jmp (by omega) a] at h ⊢
      rw [hs (n - 1) (by omega)]
      by_cases z : (s (n - 1)).toInt = (if cOp (F i) = 12 then 1 else 0)
      · rw [if_pos z] at h ⊢
        have ev0 : (cAr (F i)).toNat = v0 := by omega
        rw [ev0] at h ⊢
        exact ev_same hty hC (by omega) v3 (by rw [if_pos v4]; exact hn) hs h
      · rw [if_neg z] at h ⊢
        exact ev_same hty hC (by omega) (by omega) (by rw [d, if_neg (by omega)]; omega) (fun j hj => hs j (by omega)) h
end

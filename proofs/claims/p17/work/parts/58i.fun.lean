/-! seen, unseen: class and reference answer alike -/
def AL (M N : Mem) (n : Nat) : Prop := n ≤ 40 ∧ (iv M 7 2).toInt = n ∧ (iv N 181 0).toInt = n ∧
  (∀ e, e < n → (∀ f, f < 10 → f ≠ 7 → (iv M (10 + e) f).toInt = (iv N (rA f) e).toInt) ∧ yRel 7 (iv M (10 + e) 7).toInt (iv N 191 e).toInt ∧ ((iv M (10 + e) 7).toInt = 1000000 → (iv M (10 + e) 8).toInt = -1) ∧ ((iv M (10 + e) 7).toInt ≠ 1000000 → 0 ≤ (iv M (10 + e) 8).toInt)) ∧
  ∀ s, s < 8 → iv M 5 s = iv N 183 s
theorem iv_vI {M : Mem} {c i : Nat} : (iv M c i).toInt = vI (mSlot M c i) := by
  unfold iv vI
  cases mSlot M c i with
  | none => rfl
  | some w => cases w <;> rfl
theorem yV_iv {M : Mem} {t f d : Nat} (h : yOk t f d = true) : yV M t f d = (iv M (yC t f d) (ySl t f d)).toInt := by
  unfold yV
  rw [h, iv_vI]
  rfl
theorem ok01 {f d : Nat} (hf : f < 10) (hd : d < 40) : yOk 0 f d = true ∧ yOk 1 f d = true := by
  have a : Nat.blt f 10 = true := Nat.ble_eq_true_of_le hf
  have b : Nat.blt d 40 = true := Nat.ble_eq_true_of_le hd
  have c : (Nat.blt f 10 && Nat.blt d 40) = true := by rw [a, b]; rfl
  exact ⟨c, c⟩
theorem AL_of {scr : SG} {M : Mem} (h : aMem scr M) {n : Nat} (hn : n ≤ 40) (o0 : (scr.2 1030 2).toInt = 0) (on : (scr.2 1030 0).toInt = n) (c : (iv M 7 2).toInt = n) (r : (iv M 181 0).toInt = n) : AL M M n := by
  have hx : x9 scr.2 M := h.1.2.2.1
  have hp : yAll (Gi (gS scr.2) 0 0) (yV M) := y9_o (k := 0) hx.2 o0
  refine ⟨hn, c, r, fun e he => ?_, fun s hs => ?_⟩
  · have hl := hp e (show (e : Int) < (scr.2 1030 0).toInt by omega)
    have k0 : ∀ f, f < 10 → yV M 0 f e = (iv M (10 + e) f).toInt := fun f hf => yV_iv (ok01 hf (by omega)).1
    have k1 : ∀ f, f < 10 → yV M 1 f e = (iv M (rA f) e).toInt := fun f hf => yV_iv (ok01 hf (by omega)).2
    refine ⟨fun f hf h7 => ?_, ?_, fun q => ?_, fun q => ?_⟩
    · rw [← k0 f hf, ← k1 f hf]
      exact yRel_ne h7 (hl.1 f hf)
    · have a := hl.1 7 (by decide)
      dsimp only at a
      rw [k0 7 (by decide), k1 7 (by decide)] at a
      exact a
    · rw [← k0 7 (by decide)] at q
      rw [← k0 8 (by decide)]
      exact (hl.2.1 q).1
    · rw [← k0 7 (by decide)] at q
      rw [← k0 8 (by decide)]
      exact hl.2.2 q
  · have a := (aMem_x10 h).2.1 s hs
    unfold iv
    rw [a.1]
theorem AL_fx {M N : Mem} {n : Nat} (h : AL M M n) (f : Fx 170 174 M N) : AL M N n := by
  have ra : ∀ g, g < 10 → rA g < 170 ∨ 174 < rA g := by decide
  refine ⟨h.1, h.2.1, by rw [f.si (c := 181) (by decide)]; exact h.2.2.1, fun e he => ?_, fun s hs => by rw [f.si (c := 183) (by decide)]; exact h.2.2.2.2 s hs⟩
  obtain ⟨a, b, c⟩ := h.2.2.2.1 e he
  refine ⟨fun g hg h7 => ?_, ?_, c⟩
  · rw [f.si (ra g hg)]
    exact a g hg h7
  · rw [f.si (c := 191) (by decide)]
    exact b
section
variable {M N : Mem} {n : Nat}
theorem rStr_eq (x : Int32) : rStr x = bStr x := rfl
theorem rPer_eq (x : Int32) : rPer x = bPer x := rfl
theorem rDay_eq (x : Int32) : rDay x = bDay x := by
  show (bif decide (x.toInt < 0) then false else (bif decide (999 < x.toInt) then false else true)) = (bif decide (x.toInt < 0) then false else (bif decide (x.toInt < 1000) then true else false))
  by_cases h : x.toInt < 1000
  · rw [decide_eq_true h, decide_eq_false (show ¬ 999 < x.toInt by omega)]
    rfl
  · rw [decide_eq_false h, decide_eq_true (show 999 < x.toInt by omega)]
    rfl
theorem rIn_eq1 (x : Int32) : rIn x 0 1 = bIn x 2 := by
  show (bif decide (x.toInt < 0) then false else (bif decide (1 < x.toInt) then false else true)) = (bif decide (x.toInt < 0) then false else (bif decide (x.toInt < 2) then true else false))
  by_cases h : x.toInt < 2
  · rw [decide_eq_true h, decide_eq_false (show ¬ 1 < x.toInt by omega)]
    rfl
  · rw [decide_eq_false h, decide_eq_true (show 1 < x.toInt by omega)]
    rfl
theorem rIn_eq2 (x : Int32) : rIn x 0 2 = bIn x 3 := by
  show (bif decide (x.toInt < 0) then false else (bif decide (2 < x.toInt) then false else true)) = (bif decide (x.toInt < 0) then false else (bif decide (x.toInt < 3) then true else false))
  by_cases h : x.toInt < 3
  · rw [decide_eq_true h, decide_eq_false (show ¬ 2 < x.toInt by omega)]
    rfl
  · rw [decide_eq_false h, decide_eq_true (show 2 < x.toInt by omega)]
    rfl
theorem bIn_true {x y : Int32} (h : bIn x y = true) : 0 ≤ x.toInt ∧ x.toInt < y.toInt := by
  unfold bIn at h
  by_cases h1 : x.toInt < 0
  · rw [decide_eq_true h1] at h; cases h
  · rw [decide_eq_false h1] at h
    by_cases h2 : x.toInt < y.toInt
    · exact ⟨by omega, h2⟩
    · rw [decide_eq_false h2] at h; cases h
theorem bStr_true {x : Int32} (h : bStr x = true) : 0 ≤ x.toInt ∧ x.toInt < 8 := bIn_true h
theorem bPer_true {x : Int32} (h : bPer x = true) : 0 ≤ x.toInt ∧ x.toInt < 10 := bIn_true h
theorem bDay_true {x : Int32} (h : bDay x = true) : 0 ≤ x.toInt ∧ x.toInt < 1000 := bIn_true h
theorem rDeed_eq (hA : AL M N n) (x : Int32) : rDeed N x = bDeed M x := by
  unfold rDeed bDeed bIn
  rw [hA.2.1, hA.2.2.1]
theorem bDeed_true (hA : AL M N n) {x : Int32} (h : bDeed M x = true) : 0 ≤ x.toInt ∧ x.toInt.toNat < n := by
  have := bIn_true (show bIn x (iv M 7 2) = true from h)
  rw [hA.2.1] at this
  omega
theorem and1_iff (z : Int32) : decide ((z &&& (1 : Int32)).toInt = 1) = !decide ((z &&& (1 : Int32)).toInt = 0) := by
  rcases i32_and1 z with h | h <;> rw [h] <;> rfl
theorem rOf_eq (hA : AL M N n) {x : Int32} (hx : x.toInt.toNat < n) (s : Int32) : rOf N x s = bOf M x.toInt.toNat s := by
  have e : iv N 187 x.toInt.toNat = iv M (10 + x.toInt.toNat) 2 := i32_eq.mpr ((hA.2.2.2.1 _ hx).1 2 (by decide) (by decide)).symm
  unfold rOf bOf
  rw [e, and1_iff]
  cases decide ((((iv M (10 + x.toInt.toNat) 2) >>> (s &&& 31)) &&& (1 : Int32)).toInt = 0) <;> rfl
/-- entered by a day -/
theorem rEnt_eq (hA : AL M N n) {x : Int32} (hx : x.toInt.toNat < n) {u : Int32} (hu : u.toInt < 1000000) : rEnt N x u = !decide (u.toInt < (iv M (10 + x.toInt.toNat) 7).toInt) := by
  have h := (hA.2.2.2.1 _ hx).2.1
  unfold rEnt
  rcases yRel_7 h with ⟨a, b⟩ | ⟨a, b, c⟩
  · rw [decide_eq_true b, a, decide_eq_true hu]
    rfl
  · rw [decide_eq_false (show ¬ (iv N 191 x.toInt.toNat).toInt = -1 by omega), ← a]
    cases decide (u.toInt < (iv M (10 + x.toInt.toNat) 7).toInt) <;> rfl
theorem rMis_eq (hA : AL M N n) {x : Int32} (hx : x.toInt.toNat < n) : rMis N x = bMis M x.toInt.toNat := by
  obtain ⟨h, h7, ha, hb⟩ := hA.2.2.2.1 _ hx
  have e8 : (iv M (10 + x.toInt.toNat) 8).toInt = (iv N 192 x.toInt.toNat).toInt := h 8 (by decide) (by decide)
  have e0 : (iv M (10 + x.toInt.toNat) 0).toInt = (iv N 185 x.toInt.toNat).toInt := h 0 (by decide) (by decide)
  unfold rMis bMis
  rw [← e8, ← e0]
  rcases yRel_7 h7 with ⟨a, b⟩ | ⟨a, b, c⟩
  · rw [decide_eq_true b, decide_eq_true (ha a)]
  · have p := hb (by omega)
    rw [decide_eq_false (show ¬ (iv N 191 x.toInt.toNat).toInt = -1 by omega), decide_eq_false (show ¬ (iv M (10 + x.toInt.toNat) 8).toInt = -1 by omega)]
/-- from which day on a person's deed of all of a strip is entered -/
theorem tFold_lt {s u : Int32} {p : Nat} (hu : u.toInt < 1000000) : ∀ k, decide (u.toInt < (tFold M s k p).toInt) = true ↔ ∀ e, e < k → (bKs M e s && decide ((iv M (10 + e) 1).toInt.toNat = p)) = true → u.toInt < (iv M (10 + e) 7).toInt := by
  intro k
  induction k with
  | zero => exact ⟨fun _ e he => absurd he (Nat.not_lt_zero e), fun _ => decide_eq_true (show u.toInt < (1000000 : Int32).toInt from hu)⟩
  | succ k ih =>
    have split : (∀ e, e < k + 1 → (bKs M e s && decide ((iv M (10 + e) 1).toInt.toNat = p)) = true → u.toInt < (iv M (10 + e) 7).toInt) ↔ (∀ e, e < k → (bKs M e s && decide ((iv M (10 + e) 1).toInt.toNat = p)) = true → u.toInt < (iv M (10 + e) 7).toInt) ∧ ((bKs M k s && decide ((iv M (10 + k) 1).toInt.toNat = p)) = true → u.toInt < (iv M (10 + k) 7).toInt) := by
      constructor
      · intro h
        exact ⟨fun e he => h e (by omega), h k (by omega)⟩
      · intro h e he
        by_cases q : e = k
        · rw [q]; exact h.2
        · exact h.1 e (by omega)
    rw [split, ← ih]
    show decide (u.toInt < (bif bKs M k s && decide ((iv M (10 + k) 1).toInt.toNat = p) then minI (tFold M s k p) (iv M (10 + k) 7) else tFold M s k p).toInt) = true ↔ _
    cases hb : (bKs M k s && decide ((iv M (10 + k) 1).toInt.toNat = p)) with
    | false => exact ⟨fun h => ⟨h, fun c => absurd c (by decide)⟩, fun h => h.1⟩
    | true =>
      dsimp only [cond_true]
      rw [decide_eq_true_iff, decide_eq_true_iff]
      unfold minI
      split
      · rename_i hlt
        have := Int32.lt_iff_toInt_lt.mp hlt
        exact ⟨fun h => ⟨by omega, fun _ => h⟩, fun h => h.2 rfl⟩
      · rename_i hlt
        have := mt Int32.lt_iff_toInt_lt.mpr hlt
        exact ⟨fun h => ⟨h, fun _ => by omega⟩, fun h => h.1⟩
theorem rAny_iff {x s u : Int32} : ∀ k, rAny M x s u k = true ↔ ∃ e, e < k ∧ rHit M x s u e = true := by
  intro k
  induction k with
  | zero => exact ⟨fun h => (by cases h), fun ⟨e, he, _⟩ => absurd he (Nat.not_lt_zero e)⟩
  | succ k ih =>
    show (rAny M x s u k || rHit M x s u k) = true ↔ _
    rw [Bool.or_eq_true, ih]
    constructor
    · rintro (⟨e, he, h⟩ | h)
      · exact ⟨e, by omega, h⟩
      · exact ⟨k, by omega, h⟩
    · rintro ⟨e, he, h⟩
      by_cases q : e = k
      · rw [q] at h; exact Or.inr h
      · exact Or.inl ⟨e, by omega, h⟩
theorem i32_natB {e : Nat} (h : e < 40) : (Int32.ofNat e).toInt.toNat = e := by
  rw [Int32.toInt_ofNat_of_lt (by omega)]
  omega
theorem rHit_eq (hA : AL M N n) {x s u : Int32} (hx : x.toInt.toNat < n) (hu : u.toInt < 1000000) (ht : ∀ e, e < n → 0 ≤ (iv M (10 + e) 1).toInt) (hg : 0 ≤ (iv M (10 + x.toInt.toNat) 0).toInt) {e : Nat} (he : e < n) : rHit N x s u e = ((bKs M e s && decide ((iv M (10 + e) 1).toInt.toNat = (iv M (10 + x.toInt.toNat) 0).toInt.toNat)) && !decide (u.toInt < (iv M (10 + e) 7).toInt)) := by
  have h40 := hA.1
  have hb := i32_natB (e := e) (by omega)
  have h := (hA.2.2.2.1 e he).1
  have h4 : (iv M (10 + e) 4).toInt = (iv N 189 e).toInt := h 4 (by decide) (by decide)
  have h1 : (iv M (10 + e) 1).toInt = (iv N 186 e).toInt := h 1 (by decide) (by decide)
  have h0 : (iv M (10 + x.toInt.toNat) 0).toInt = (iv N 185 x.toInt.toNat).toInt := (hA.2.2.2.1 _ hx).1 0 (by decide) (by decide)
  have t := ht e he
  unfold rHit bKs
  rw [rOf_eq hA (by rw [hb]; exact he), rEnt_eq hA (by rw [hb]; exact he) hu, hb, ← h4, ← h1, ← h0]
  have q : decide ((iv M (10 + e) 1).toInt = (iv M (10 + x.toInt.toNat) 0).toInt) = decide ((iv M (10 + e) 1).toInt.toNat = (iv M (10 + x.toInt.toNat) 0).toInt.toNat) := by
    by_cases w : (iv M (10 + e) 1).toInt = (iv M (10 + x.toInt.toNat) 0).toInt
    · rw [decide_eq_true w, decide_eq_true (by rw [w])]
    · rw [decide_eq_false w, decide_eq_false (by omega)]
  rw [q]
  cases decide ((iv M (10 + e) 4).toInt = 0) <;> cases bOf M e s <;> cases decide ((iv M (10 + e) 1).toInt.toNat = (iv M (10 + x.toInt.toNat) 0).toInt.toNat) <;> rfl
/-- givers and takers are people -/
def pvC (M : Mem) : Prop := ∀ e, e < 40 → (0 ≤ (iv M (10 + e) 0).toInt ∧ (iv M (10 + e) 0).toInt ≤ 9) ∧ 0 ≤ (iv M (10 + e) 1).toInt
theorem rWild_eq (hA : AL M N n) (hp : pvC M) {x s u : Int32} (hx : x.toInt.toNat < n) (hs : s.toInt.toNat < 8) (hu : u.toInt < 1000000) : rWild N x s u = wildC M x.toInt.toNat s u := by
  have h40 := hA.1
  have h0 : (iv M (10 + x.toInt.toNat) 0).toInt = (iv N 185 x.toInt.toNat).toInt := (hA.2.2.2.1 _ hx).1 0 (by decide) (by decide)
  have hn : nR N = n := by unfold nR; rw [hA.2.2.1]; omega
  have hc : nC M = n := by unfold nC; rw [hA.2.1]; omega
  unfold rWild wildC
  rw [← h0, ← hA.2.2.2.2 _ hs, hn, hc]
  congr 1
  have hiff : rAny N x s u n = true ↔ ¬ decide (u.toInt < (tFold M s n (iv M (10 + x.toInt.toNat) 0).toInt.toNat).toInt) = true := by
    rw [rAny_iff, tFold_lt hu]
    constructor
    · rintro ⟨e, he, h⟩ c
      rw [rHit_eq hA hx hu (fun e he => (hp e (by omega)).2) (hp _ (by omega)).1.1 he, Bool.and_eq_true] at h
      have := c e he h.1
      rw [decide_eq_true this] at h
      cases h.2
    · intro c
      apply Classical.byContradiction
      intro nh
      apply c
      intro e he hk
      apply Classical.byContradiction
      intro nl
      apply nh
      refine ⟨e, he, ?_⟩
      rw [rHit_eq hA hx hu (fun e he => (hp e (by omega)).2) (hp _ (by omega)).1.1 he, hk, decide_eq_false nl]
      rfl
  cases h1 : rAny N x s u n with
  | true =>
    cases h2 : decide (u.toInt < (tFold M s n (iv M (10 + x.toInt.toNat) 0).toInt.toNat).toInt) with
    | true => exact absurd h2 (hiff.mp h1)
    | false => rfl
  | false =>
    cases h2 : decide (u.toInt < (tFold M s n (iv M (10 + x.toInt.toNat) 0).toInt.toNat).toInt) with
    | true => rfl
    | false =>
      have : rAny N x s u n = true := hiff.mpr (by rw [h2]; decide)
      rw [h1] at this
      cases this
theorem rFind_eq (hA : AL M N n) (hp : pvC M) {x s u : Int32} (hx : x.toInt.toNat < n) (hs : s.toInt.toNat < 8) (hu : u.toInt < 1000000) : rFind N x s u = findC M x.toInt.toNat s u := by
  unfold rFind findC
  rw [rEnt_eq hA hx hu, rMis_eq hA hx, rWild_eq hA hp hx hs hu]
  cases decide (u.toInt < (iv M (10 + x.toInt.toNat) 7).toInt) <;> cases wildC M x.toInt.toNat s u <;> rfl
theorem seen_eq (hA : AL M N n) (hp : pvC M) (x s t w : Int32) : seenR N x s t w = seenC M x s t w := by
  unfold seenR seenC bDOf
  rw [rDeed_eq hA, rStr_eq, rDay_eq, rIn_eq1]
  cases h1 : bDeed M x with
  | false => rfl
  | true =>
    cases h2 : bStr s with
    | false => rfl
    | true =>
      have hx := (bDeed_true hA h1).2
      have hs := bStr_true h2
      rw [rOf_eq hA hx]
      cases h3 : bOf M x.toInt.toNat s with
      | false => rfl
      | true =>
        cases h4 : bDay t with
        | false => rfl
        | true =>
          have ht := bDay_true h4
          cases h5 : bIn w 2 with
          | false => rfl
          | true =>
            rw [rWild_eq hA hp hx (by omega) (by omega), rFind_eq hA hp hx (by omega) (by omega)]
            cases decide (w.toInt = 0) <;> cases wildC M x.toInt.toNat s t <;> cases findC M x.toInt.toNat s t <;> rfl
theorem uns_eqF (hA : AL M N n) (hp : pvC M) {s t w : Int32} (hs : s.toInt.toNat < 8) (ht : t.toInt < 1000) (hw : 0 ≤ w.toInt ∧ w.toInt < 3) : ∀ k, k ≤ n → unsF N s t w k = hidF M s t w k := by
  intro k
  induction k with
  | zero => intro _; rfl
  | succ k ih =>
    intro hk
    have h40 := hA.1
    have hb := i32_natB (e := k) (by omega)
    have hx : (Int32.ofNat k).toInt.toNat < n := by rw [hb]; omega
    have h3 : (iv M (10 + k) 3).toInt = (iv N 188 k).toInt := (hA.2.2.2.1 k (by omega)).1 3 (by decide) (by decide)
    have e : unsB N s t w k = hidB M s t w k := by
      unfold unsB hidB rSig hidV
      rw [rOf_eq hA hx, rEnt_eq hA hx (by omega), rMis_eq hA hx, rWild_eq hA hp hx hs (by omega), hb, ← h3]
      congr 2
      cases decide (t.toInt < (iv M (10 + k) 7).toInt) with
      | true => rfl
      | false =>
        cases bMis M k with
        | true => rfl
        | false =>
          cases wildC M k s t with
          | true => rfl
          | false =>
            show decide ((3 : Int32).toInt = w.toInt) = decide ((-1 : Int32).toInt = w.toInt)
            rw [decide_eq_false (show ¬ (3 : Int32).toInt = w.toInt by show ¬ 3 = w.toInt; omega), decide_eq_false (show ¬ (-1 : Int32).toInt = w.toInt by show ¬ -1 = w.toInt; omega)]
    show (bif unsB N s t w k then unsF N s t w k ||| bit1 (Int32.ofNat k) else unsF N s t w k) = (bif hidB M s t w k then hidF M s t w k ||| bit1 (Int32.ofNat k) else hidF M s t w k)
    rw [e, ih (by omega)]
theorem uns_eq (hA : AL M N n) (hp : pvC M) (s t w : Int32) : unsR N s t w = unsC M s t w := by
  have hn : nR N = n := by unfold nR; rw [hA.2.2.1]; omega
  have hc : nC M = n := by unfold nC; rw [hA.2.1]; omega
  unfold unsR unsC
  rw [rStr_eq, rDay_eq, rIn_eq2, hn, hc]
  cases h2 : bStr s with
  | false => simp only [Bool.false_and, cond_false]
  | true =>
    cases h4 : bDay t with
    | false => simp only [Bool.false_and, Bool.and_false, cond_false]
    | true =>
      cases h5 : bIn w 3 with
      | false => simp only [Bool.and_false, cond_false]
      | true =>
        rw [uns_eqF hA hp (by have := bStr_true h2; omega) (by have := bDay_true h4; omega) (bIn_true h5) n (Nat.le_refl n)]
end

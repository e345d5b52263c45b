/-! what is kept: rows and columns are copied -/
def CI (s : List Int32) (mod : List (Nat × Nat)) (M0 : Mem) (T : YT) (M : Mem) : Prop := aTp s M ∧ xv M = xv M0 ∧ yT M ∧ aFr mod M0 M ∧ yV M = T
section
variable {s : List Int32} {mod : List (Nat × Nat)} {M0 M : Mem} {T : YT}
theorem CI_put (h : CI s mod M0 T M) {t f d tg n : Nat} {x : Int32} (ok : yOk t f d = true) (h2 : 2 ≤ yC t f d) (h3 : yC t f d < tEnd) (ht : aTy (tTy (tGrp (yC t f d)) (ySl t f d)) (.int x)) (hh : mHd M (yC t f d) = some (tg, n)) (hn : ySl t f d < n) (h0 : tPro0 (tGrp (yC t f d)) (aSlK (yC t f d) (ySl t f d)) = false) (h8 : yC t f d ≠ 8) (h51 : yC t f d ≠ 51) (hm : memP (tGrp (yC t f d)) (aSlK (yC t f d) (ySl t f d)) mod = true) : CI s mod M0 (yUp T t f d x.toInt) (mPut M (yC t f d) (ySl t f d) (.int x)) :=
  ⟨h.1.put h2 h3 ht, (xv_put0 h0).trans h.2.1, yT_put h8 h51 h.2.2.1, h.2.2.2.1.tr (aFr_put hm), by rw [yV_put ok hh hn, h.2.2.2.2]⟩
theorem yV_nq {a i : Nat} {v : Value} (h : tPro9 (tGrp a) (aSlK a i) = false) : yV (mPut M a i v) = yV M := by
  refine yV_same (fun t f d hq => mSlot_put_ne ?_)
  by_cases e : yC t f d = a
  · refine Or.inr (fun e2 => ?_)
    have q := (yPro9 hq).1
    rw [e, e2, h] at q
    cases q
  · exact Or.inl e
theorem CI_nq (h : CI s mod M0 T M) {a i : Nat} {v : Value} (h2 : 2 ≤ a) (h3 : a < tEnd) (ht : aTy (tTy (tGrp a) i) v) (h9 : tPro9 (tGrp a) (aSlK a i) = false) (h0 : tPro0 (tGrp a) (aSlK a i) = false) (h8 : a ≠ 8) (h51 : a ≠ 51) (hf : aFr mod M (mPut M a i v)) : CI s mod M0 T (mPut M a i v) :=
  ⟨h.1.put h2 h3 ht, (xv_put0 h0).trans h.2.1, yT_put h8 h51 h.2.2.1, h.2.2.2.1.tr hf, (yV_nq h9).trans h.2.2.2.2⟩
theorem CI_mem {γ γ' : Gh} (h : CI s mod M0 T M) (hA : aMem9 (s, γ) M0) (hl : ∀ g i, g < 1030 → γ' g i = γ g i) (hy : y9 (gS γ') T) : aMem9 (s, γ') M := fin9 hA h.1 hl h.2.1 ⟨h.2.2.1, by rw [h.2.2.2.2]; exact hy⟩
theorem CI_0 {γ : Gh} (hA : aMem9 (s, γ) M0) : CI s mod M0 (yV M0) M0 := ⟨aTp_of (aMem_0 hA), rfl, (show x9 γ M0 from hA.1.2.2).1, aFr.rf, rfl⟩
theorem aFr_ar {a i : Nat} {v : Value} (h64 : 64 ≤ tTag (tGrp a)) (h : ∀ j, tPro (tGrp a) (aSlK a j) = false) : aFr mod M (mPut M a i v) := by
  cases hm : M[a]? with
  | none => unfold mPut; rw [hm]; exact aFr.rf
  | some q =>
    obtain ⟨t, fs⟩ := q
    refine ⟨by rw [mPut_eq hm, List.length_set], by rw [mPut_eq hm]; exact mSl_set hm List.length_set, ?_, ?_⟩
    · intro c j c1 c2 c3 c4 c5
      refine mSlot_put_ne (Or.inl (fun e => ?_))
      subst e
      omega
    · intro c j c1 c2 c3 c4
      refine mSlot_put_ne (Or.inl (fun e => ?_))
      subst e
      rw [h j] at c3
      cases c3
theorem hdE (hT : aTp s M) {d : Nat} (hd : d < 40) : mHd M (53 + d) = some (1, 10) := by
  have h := hT.hd (c := 53 + d) (by omega) (by show 53 + d < 242; omega)
  rw [grp53 d hd] at h
  exact h
theorem slE {d : Nat} (hd : d < 40) (f : Nat) : aSlK (53 + d) f = f := by
  unfold aSlK
  rw [grp53 d hd]
  rfl
theorem tyE : ∀ f, f < 10 → tTy 53 f = (1, yLo f, yHi f, []) := by
  intro f hf
  rcases f10 hf with rfl | rfl | rfl | rfl | rfl | rfl | rfl | rfl | rfl | rfl <;> rfl
theorem tE (hT : aTp s M) {d f : Nat} (hd : d < 40) (hf : f < 10) : ∃ x : Int32, mSlot M (53 + d) f = some (.int x) ∧ yV M 2 f d = x.toInt ∧ yLo f ≤ x.toInt ∧ x.toInt ≤ yHi f := by
  obtain ⟨x, x1, x2, x3⟩ := hT.int (c := 53 + d) (i := f) (by omega) (by show 53 + d < 242; omega) (by rw [grp53 d hd]; exact hf) (lo := yLo f) (hi' := yHi f) (gs := []) (by rw [grp53 d hd]; exact tyE f hf)
  exact ⟨x, x1, yV_get (t := 2) (f := f) (d := d) (yOk_4 (by decide) hf hd) x1, x2, x3⟩
theorem CI_D (h : CI s mod M0 T M) {d f : Nat} {x : Int32} (hd : d < 40) (hf : f < 10) (h1 : yLo f ≤ x.toInt) (h2 : x.toInt ≤ yHi f) (hm : memP 10 f mod = true) : CI s mod M0 (yUp T 0 f d x.toInt) (mPut M (10 + d) f (.int x)) := by
  refine CI_put (t := 0) (f := f) (d := d) h (yOk_4 (by decide) hf hd) (by show 2 ≤ 10 + d; omega) (by show 10 + d < 242; omega) ?_ (hdD h.1 hd) hf ?_ (by show 10 + d ≠ 8; omega) (by show 10 + d ≠ 51; omega) ?_
  · show aTy (tTy (tGrp (10 + d)) f) (.int x)
    rw [grp10 d hd, tyD f hf]
    exact ⟨x, rfl, h1, h2⟩
  · show tPro0 (tGrp (10 + d)) (aSlK (10 + d) f) = false
    rw [slD hd, grp10 d hd]
    rcases f10 hf with rfl | rfl | rfl | rfl | rfl | rfl | rfl | rfl | rfl | rfl <;> rfl
  · show memP (tGrp (10 + d)) (aSlK (10 + d) f) mod = true
    rw [slD hd, grp10 d hd]
    exact hm
theorem CI_E (h : CI s mod M0 T M) {d f : Nat} {x : Int32} (hd : d < 40) (hf : f < 10) (h1 : yLo f ≤ x.toInt) (h2 : x.toInt ≤ yHi f) (hm : memP 53 f mod = true) : CI s mod M0 (yUp T 2 f d x.toInt) (mPut M (53 + d) f (.int x)) := by
  refine CI_put (t := 2) (f := f) (d := d) h (yOk_4 (by decide) hf hd) (by show 2 ≤ 53 + d; omega) (by show 53 + d < 242; omega) ?_ (hdE h.1 hd) hf ?_ (by show 53 + d ≠ 8; omega) (by show 53 + d ≠ 51; omega) ?_
  · show aTy (tTy (tGrp (53 + d)) f) (.int x)
    rw [grp53 d hd, tyE f hf]
    exact ⟨x, rfl, h1, h2⟩
  · show tPro0 (tGrp (53 + d)) (aSlK (53 + d) f) = false
    rw [slE hd, grp53 d hd]
    rcases f10 hf with rfl | rfl | rfl | rfl | rfl | rfl | rfl | rfl | rfl | rfl <;> rfl
  · show memP (tGrp (53 + d)) (aSlK (53 + d) f) mod = true
    rw [slE hd, grp53 d hd]
    exact hm
end
def cRow (T : YT) (tt ss d k : Nat) : YT := fun t' f' d' => if t' = tt ∧ d' = d ∧ f' < k then T ss f' d' else T t' f' d'
theorem cRow_0 {T : YT} {tt ss d : Nat} : cRow T tt ss d 0 = T := by
  funext t' f' d'
  unfold cRow
  rw [if_neg (fun h => Nat.not_lt_zero _ h.2.2)]
theorem cRow_up {T : YT} {tt ss d k : Nat} : yUp (cRow T tt ss d k) tt k d (T ss k d) = cRow T tt ss d (k + 1) := by
  funext t' f' d'
  by_cases e : t' = tt ∧ f' = k ∧ d' = d
  · obtain ⟨rfl, rfl, rfl⟩ := e
    rw [yUp_eq]
    unfold cRow
    rw [if_pos ⟨rfl, rfl, Nat.lt_succ_self _⟩]
  · rw [yUp_ne (by omega)]
    unfold cRow
    by_cases g : t' = tt ∧ d' = d ∧ f' < k
    · rw [if_pos g, if_pos ⟨g.1, g.2.1, by omega⟩]
    · rw [if_neg g, if_neg (fun h => g ⟨h.1, h.2.1, by omega⟩)]
theorem cRow_s {T : YT} {tt ss d k : Nat} (h : ss ≠ tt) {f' d' : Nat} : cRow T tt ss d k ss f' d' = T ss f' d' := by
  unfold cRow
  rw [if_neg (fun g => h g.1)]
/-- the rows before i are copied -/
def cRs (T : YT) (tt ss i : Nat) : YT := fun t' f' d' => if t' = tt ∧ d' < i ∧ f' < 10 then T ss f' d' else T t' f' d'
theorem cRs_0 {T : YT} {tt ss : Nat} : cRs T tt ss 0 = T := by
  funext t' f' d'
  unfold cRs
  rw [if_neg (fun h => Nat.not_lt_zero _ h.2.1)]
theorem cRs_up {T : YT} {tt ss i : Nat} (h : ss ≠ tt) : cRow (cRs T tt ss i) tt ss i 10 = cRs T tt ss (i + 1) := by
  funext t' f' d'
  unfold cRow cRs
  by_cases e : t' = tt ∧ d' = i ∧ f' < 10
  · rw [if_pos e, if_neg (fun g => h g.1), if_pos ⟨e.1, by omega, e.2.2⟩]
  · rw [if_neg e]
    by_cases g : t' = tt ∧ d' < i ∧ f' < 10
    · rw [if_pos g, if_pos ⟨g.1, by omega, g.2.2⟩]
    · rw [if_neg g, if_neg (fun q => g ⟨q.1, by omega, q.2.2⟩)]
theorem cRs_ne {T : YT} {tt ss i t : Nat} (h : t ≠ tt) : cRs T tt ss i t = T t := by
  funext f' d'
  unfold cRs
  rw [if_neg (fun g => h g.1)]
theorem cRs_eq {T : YT} {tt ss i f d : Nat} (hd : d < i) (hf : f < 10) : cRs T tt ss i tt f d = T ss f d := by
  unfold cRs
  rw [if_pos ⟨rfl, hd, hf⟩]
theorem okF {f : Nat} {x : Int32} (hf : f < 10) (h1 : yLo f ≤ x.toInt) (h2 : x.toInt ≤ yHi f) : mOkF (mTy 1 f) (.int x) = true := by
  rcases f10 hf with rfl | rfl | rfl | rfl | rfl | rfl | rfl | rfl | rfl | rfl
  · rfl
  · rfl
  · rfl
  · rfl
  · rfl
  · rfl
  · rcases i32_zo (x := x) h1 h2 with e | e <;> (rw [e]; rfl)
  · rfl
  · rfl
  · rfl
theorem mCall_31 {d a b n : Nat} {M : Mem} (hd : 1 ≤ d) (hh : mHd M a = some (1, n)) : mCall d 31 [.ref b, .ref a] M = some ([.ref a, .ref b], []) := by
  unfold mCall
  exact if_pos ⟨⟨hd, by decide, Nat.le_refl 2, Nat.zero_le 8, Nat.le_refl 2⟩, Or.inr (Or.inl ⟨rfl, mTag_hd hh⟩)⟩
theorem at31 : ∀ k, k < 10 → mAt 31 (8 * k) = some (1, .aload 0) ∧ mAt 31 (8 * k + 1) = some (1, .aload 1) ∧ mAt 31 (8 * k + 1 + 1) = some (3, .getfield (100 + k)) ∧ mAt 31 (8 * k + 1 + 1 + 3) = some (3, .putfield (100 + k)) := by
  intro k hk
  rcases f10 hk with rfl | rfl | rfl | rfl | rfl | rfl | rfl | rfl | rfl | rfl <;> exact ⟨rfl, rfl, rfl, rfl⟩
/-- a deed's fields are copied (to table 2) -/
theorem cpk_run {s : List Int32} {mod : List (Nat × Nat)} {M0 : Mem} {T : YT} {L : MLoc} {dd d : Nat} {Q : Option Value → Mem → Prop} (hd : dd < 40) (hm : ∀ f, f < 10 → memP 53 f mod = true) (l0 : mLd L 0 = some (.ref (53 + dd))) (l1 : mLd L 1 = some (.ref (10 + dd))) (K : ∀ M', CI s mod M0 (cRow T 2 0 dd 10) M' → Q none M') : ∀ (n k : Nat) (M : Mem), k + n = 10 → CI s mod M0 (cRow T 2 0 dd k) M → Ok d 31 (8 * k) L [] M Q := by
  intro n
  induction n with
  | zero =>
    intro k M hk h
    have e : k = 10 := by omega
    subst e
    exact kRetV (mi := 31) (pc := 8 * 10) (len := 1) rfl rfl (K M h)
  | succ n ih =>
    intro k M hk h
    have hk10 : k < 10 := by omega
    obtain ⟨a1, a2, a3, a4⟩ := at31 k hk10
    obtain ⟨x, x1, x2, x3, x4⟩ := tD h.1 hd hk10
    have e1 : (100 + k) / 100 = 1 := by omega
    have e2 : (100 + k) % 100 = k := by omega
    refine kAload a1 l0 ?_
    refine kAload a2 l1 ?_
    refine kGetf (w := .int x) a3 (by rw [e1]; exact hdD h.1 hd) (by rw [e1]; decide) (by rw [e2]; exact x1) ?_
    refine kPutf a4 (by rw [e1]; exact hdE h.1 hd) (by rw [e1]; decide) (by rw [e2]; exact hk10) (by rw [e1, e2]; exact okF hk10 x3 x4) ?_
    rw [e2]
    have c := CI_E h hd hk10 x3 x4 (hm k hk10)
    rw [← x2, h.2.2.2.2, cRow_s (tt := 2) (ss := 0) (by decide), cRow_up] at c
    have r := ih (k + 1) _ (by omega) c
    rw [show 8 * (k + 1) = 8 * k + 1 + 1 + 3 + 3 by omega] at r
    exact r
theorem lk_loop {s : List Int32} {mod : List (Nat × Nat)} {M0 : Mem} {T : YT} {d : Nat} {cnt : Int32} {Q : Option Value → Mem → Prop} (hd1 : 1 ≤ d) (c0 : 0 ≤ cnt.toInt) (c1 : cnt.toInt ≤ 40) (hm : ∀ f, f < 10 → memP 53 f mod = true) (hm2 : memP (tGrp 7) 2 mod = false) (hmO : memP 52 0 mod = true) (K : ∀ M', CI s mod M0 (cRs T 2 0 cnt.toInt.toNat) M' → mSlot M' 7 2 = some (.int cnt) → Q none (mPut M' 50 2 (.int cnt))) : ∀ (n : Nat) (L : MLoc) (M : Mem) (i : Int32), cnt.toInt - i.toInt ≤ n → 0 ≤ i.toInt → i.toInt ≤ cnt.toInt → mLd L 0 = some (.ref 50) → mLd L 1 = some (.ref 7) → mLd L 2 = some (.int i) → CI s mod M0 (cRs T 2 0 i.toInt.toNat) M → mSlot M 7 2 = some (.int cnt) → Ok d 94 2 L [] M Q := by
  have fin : ∀ (L : MLoc) (M : Mem) (i : Int32), cnt.toInt ≤ i.toInt → i.toInt ≤ cnt.toInt → mLd L 0 = some (.ref 50) → mLd L 1 = some (.ref 7) → CI s mod M0 (cRs T 2 0 i.toInt.toNat) M → mSlot M 7 2 = some (.int cnt) → Ok d 94 43 L [] M Q := by
    intro L M i h1 h2 l0 l1 h hs
    have e : i.toInt.toNat = cnt.toInt.toNat := by omega
    rw [e] at h
    refine kAload (mi := 94) (pc := 43) (len := 1) (i := 0) rfl l0 ?_
    refine kAload (len := 1) (i := 1) rfl l1 ?_
    refine kGetf (len := 3) (j := 602) rfl (h.1.hd (c := 7) (by decide) (by decide)) (by decide) hs ?_
    refine kPutf (len := 3) (j := 602) rfl (h.1.hd (c := 50) (by decide) (by decide)) (by decide) (by decide) rfl ?_
    exact kRetV (len := 1) rfl rfl (K M h hs)
  intro n
  induction n with
  | zero =>
    intro L M i h1 h2 h3 l0 l1 l2 h hs
    refine kIload (mi := 94) (pc := 2) (len := 1) (i := 2) rfl l2 ?_
    refine kAload (len := 1) (i := 1) rfl l1 ?_
    refine kGetf (len := 3) (j := 602) rfl (h.1.hd (c := 7) (by decide) (by decide)) (by decide) hs ?_
    refine kIcT (len := 3) (t := 43) rfl rfl (c_ge (by omega)) ?_
    exact fin L M i (by omega) h3 l0 l1 h hs
  | succ n ih =>
    intro L M i h1 h2 h3 l0 l1 l2 h hs
    refine kIload (mi := 94) (pc := 2) (len := 1) (i := 2) rfl l2 ?_
    refine kAload (len := 1) (i := 1) rfl l1 ?_
    refine kGetf (len := 3) (j := 602) rfl (h.1.hd (c := 7) (by decide) (by decide)) (by decide) hs ?_
    by_cases g : cnt.toInt ≤ i.toInt
    · refine kIcT (len := 3) (t := 43) rfl rfl (c_ge g) ?_
      exact fin L M i g h3 l0 l1 h hs
    · refine kIcF (len := 3) (t := 43) rfl rfl (c_nge (by omega)) ?_
      have hd : i.toInt.toNat < 40 := by omega
      have hT := h.1
      have ei : (i + 1).toInt = i.toInt + 1 := i32_inc (by omega) (by omega)
      refine kAload (len := 1) (i := 0) rfl l0 ?_
      refine kGetf (len := 3) (j := 600) rfl (hT.hd (c := 50) (by decide) (by decide)) (by decide) (hT.ref (c := 50) (i := 0) (g := 51) (by decide) (by decide) (by decide) (lo := 0) (hi' := 0) rfl rfl) ?_
      refine kIload (len := 1) (i := 2) rfl l2 ?_
      refine kAaldT (len := 1) (n := 40) rfl (hT.hd (c := 51) (by decide) (by decide)) rfl (by omega) (by show i.toInt < 40; omega) (h.2.2.1 i.toInt.toNat hd).2 ?_
      refine kAload (len := 1) (i := 1) rfl l1 ?_
      refine kGetf (len := 3) (j := 600) rfl (hT.hd (c := 7) (by decide) (by decide)) (by decide) (hT.ref (c := 7) (i := 0) (g := 8) (by decide) (by decide) (by decide) (lo := 0) (hi' := 0) rfl rfl) ?_
      refine kIload (len := 1) (i := 2) rfl l2 ?_
      refine kAaldT (len := 1) (n := 40) rfl (hT.hd (c := 8) (by decide) (by decide)) rfl (by omega) (by show i.toInt < 40; omega) (h.2.2.1 i.toInt.toNat hd).1 ?_
      refine Ok.call (j := 31) (len := 3) rfl (Or.inr (Or.inl rfl)) (by decide) (mCall_31 hd1 (hdE hT hd)) ?_
      refine cpk_run (T := cRs T 2 0 i.toInt.toNat) (M0 := M0) (s := s) (mod := mod) hd hm rfl rfl ?_ 10 0 M rfl (by rw [cRow_0]; exact h)
      intro M1 h'
      rw [cRs_up (tt := 2) (ss := 0) (by decide)] at h'
      have hs1 : mSlot M1 7 2 = some (.int cnt) := by
        have q := h'.2.2.2.1.2.2.1 7 2 (by decide) (by decide) rfl (by decide) hm2
        have q0 := h.2.2.2.1.2.2.1 7 2 (by decide) (by decide) rfl (by decide) hm2
        rw [q, ← q0]
        exact hs
      have hT1 := h'.1
      obtain ⟨y, y1, y2, y3⟩ := hT1.int (c := 9) (i := i.toInt.toNat) (by decide) (by decide) hd (lo := 0) (hi' := 39) (gs := []) rfl
      refine kAload (mi := 94) (pc := 25) (len := 1) (i := 0) rfl l0 ?_
      refine kGetf (len := 3) (j := 601) rfl (hT1.hd (c := 50) (by decide) (by decide)) (by decide) (hT1.ref (c := 50) (i := 1) (g := 52) (by decide) (by decide) (by decide) (lo := 0) (hi' := 0) rfl rfl) ?_
      refine kIload (len := 1) (i := 2) rfl l2 ?_
      refine kAload (len := 1) (i := 1) rfl l1 ?_
      refine kGetf (len := 3) (j := 601) rfl (hT1.hd (c := 7) (by decide) (by decide)) (by decide) (hT1.ref (c := 7) (i := 1) (g := 9) (by decide) (by decide) (by decide) (lo := 0) (hi' := 0) rfl rfl) ?_
      refine kIload (len := 1) (i := 2) rfl l2 ?_
      refine kIald (len := 1) (n := 40) rfl (hT1.hd (c := 9) (by decide) (by decide)) (by omega) (by show i.toInt < 40; omega) y1 ?_
      refine kIast (len := 1) (n := 40) rfl (hT1.hd (c := 52) (by decide) (by decide)) (by decide) (by omega) (by show i.toInt < 40; omega) ?_
      refine kIinc (len := 3) rfl l2 (by decide) ?_
      refine kGoto (len := 3) (t := 2) rfl rfl ?_
      have c2 := CI_nq (a := 52) (i := i.toInt.toNat) (v := .int y) h' (by decide) (by decide) ⟨y, rfl, y2, y3⟩ rfl rfl (by decide) (by decide) (aFr_put (show memP (tGrp 52) (aSlK 52 i.toInt.toNat) mod = true from hmO))
      refine ih _ _ (i + 1) (by omega) (by omega) (by omega) (mLd_st1_ref (by decide) l0) (mLd_st1_ref (by decide) l1) mLd_st1_i ?_ ((mSlot_put_ne (Or.inl (by decide))).trans hs1)
      rw [show (i + 1).toInt.toNat = i.toInt.toNat + 1 by omega]
      exact c2
/-- a deed's fields are copied (to table 0) -/
theorem cpu_run {s : List Int32} {mod : List (Nat × Nat)} {M0 : Mem} {T : YT} {L : MLoc} {dd d : Nat} {Q : Option Value → Mem → Prop} (hd : dd < 40) (hm : ∀ f, f < 10 → memP 10 f mod = true) (l0 : mLd L 0 = some (.ref (10 + dd))) (l1 : mLd L 1 = some (.ref (53 + dd))) (K : ∀ M', CI s mod M0 (cRow T 0 2 dd 10) M' → Q none M') : ∀ (n k : Nat) (M : Mem), k + n = 10 → CI s mod M0 (cRow T 0 2 dd k) M → Ok d 31 (8 * k) L [] M Q := by
  intro n
  induction n with
  | zero =>
    intro k M hk h
    have e : k = 10 := by omega
    subst e
    exact kRetV (mi := 31) (pc := 8 * 10) (len := 1) rfl rfl (K M h)
  | succ n ih =>
    intro k M hk h
    have hk10 : k < 10 := by omega
    obtain ⟨a1, a2, a3, a4⟩ := at31 k hk10
    obtain ⟨x, x1, x2, x3, x4⟩ := tE h.1 hd hk10
    have e1 : (100 + k) / 100 = 1 := by omega
    have e2 : (100 + k) % 100 = k := by omega
    refine kAload a1 l0 ?_
    refine kAload a2 l1 ?_
    refine kGetf (w := .int x) a3 (by rw [e1]; exact hdE h.1 hd) (by rw [e1]; decide) (by rw [e2]; exact x1) ?_
    refine kPutf a4 (by rw [e1]; exact hdD h.1 hd) (by rw [e1]; decide) (by rw [e2]; exact hk10) (by rw [e1, e2]; exact okF hk10 x3 x4) ?_
    rw [e2]
    have c := CI_D h hd hk10 x3 x4 (hm k hk10)
    rw [← x2, h.2.2.2.2, cRow_s (tt := 0) (ss := 2) (by decide), cRow_up] at c
    have r := ih (k + 1) _ (by omega) c
    rw [show 8 * (k + 1) = 8 * k + 1 + 1 + 3 + 3 by omega] at r
    exact r
theorem lu_loop {s : List Int32} {mod : List (Nat × Nat)} {M0 : Mem} {T : YT} {d : Nat} {cnt : Int32} {Q : Option Value → Mem → Prop} (hd1 : 1 ≤ d) (c0 : 0 ≤ cnt.toInt) (c1 : cnt.toInt ≤ 40) (hm : ∀ f, f < 10 → memP 10 f mod = true) (hm2 : memP (tGrp 50) 2 mod = false) (hmO : memP 9 0 mod = true) (K : ∀ M', CI s mod M0 (cRs T 0 2 cnt.toInt.toNat) M' → mSlot M' 50 2 = some (.int cnt) → Q none (mPut M' 7 2 (.int cnt))) : ∀ (n : Nat) (L : MLoc) (M : Mem) (i : Int32), cnt.toInt - i.toInt ≤ n → 0 ≤ i.toInt → i.toInt ≤ cnt.toInt → mLd L 0 = some (.ref 7) → mLd L 1 = some (.ref 50) → mLd L 2 = some (.int i) → CI s mod M0 (cRs T 0 2 i.toInt.toNat) M → mSlot M 50 2 = some (.int cnt) → Ok d 94 2 L [] M Q := by
  have fin : ∀ (L : MLoc) (M : Mem) (i : Int32), cnt.toInt ≤ i.toInt → i.toInt ≤ cnt.toInt → mLd L 0 = some (.ref 7) → mLd L 1 = some (.ref 50) → CI s mod M0 (cRs T 0 2 i.toInt.toNat) M → mSlot M 50 2 = some (.int cnt) → Ok d 94 43 L [] M Q := by
    intro L M i h1 h2 l0 l1 h hs
    have e : i.toInt.toNat = cnt.toInt.toNat := by omega
    rw [e] at h
    refine kAload (mi := 94) (pc := 43) (len := 1) (i := 0) rfl l0 ?_
    refine kAload (len := 1) (i := 1) rfl l1 ?_
    refine kGetf (len := 3) (j := 602) rfl (h.1.hd (c := 50) (by decide) (by decide)) (by decide) hs ?_
    refine kPutf (len := 3) (j := 602) rfl (h.1.hd (c := 7) (by decide) (by decide)) (by decide) (by decide) rfl ?_
    exact kRetV (len := 1) rfl rfl (K M h hs)
  intro n
  induction n with
  | zero =>
    intro L M i h1 h2 h3 l0 l1 l2 h hs
    refine kIload (mi := 94) (pc := 2) (len := 1) (i := 2) rfl l2 ?_
    refine kAload (len := 1) (i := 1) rfl l1 ?_
    refine kGetf (len := 3) (j := 602) rfl (h.1.hd (c := 50) (by decide) (by decide)) (by decide) hs ?_
    refine kIcT (len := 3) (t := 43) rfl rfl (c_ge (by omega)) ?_
    exact fin L M i (by omega) h3 l0 l1 h hs
  | succ n ih =>
    intro L M i h1 h2 h3 l0 l1 l2 h hs
    refine kIload (mi := 94) (pc := 2) (len := 1) (i := 2) rfl l2 ?_
    refine kAload (len := 1) (i := 1) rfl l1 ?_
    refine kGetf (len := 3) (j := 602) rfl (h.1.hd (c := 50) (by decide) (by decide)) (by decide) hs ?_
    by_cases g : cnt.toInt ≤ i.toInt
    · refine kIcT (len := 3) (t := 43) rfl rfl (c_ge g) ?_
      exact fin L M i g h3 l0 l1 h hs
    · refine kIcF (len := 3) (t := 43) rfl rfl (c_nge (by omega)) ?_
      have hd : i.toInt.toNat < 40 := by omega
      have hT := h.1
      have ei : (i + 1).toInt = i.toInt + 1 := i32_inc (by omega) (by omega)
      refine kAload (len := 1) (i := 0) rfl l0 ?_
      refine kGetf (len := 3) (j := 600) rfl (hT.hd (c := 7) (by decide) (by decide)) (by decide) (hT.ref (c := 7) (i := 0) (g := 8) (by decide) (by decide) (by decide) (lo := 0) (hi' := 0) rfl rfl) ?_
      refine kIload (len := 1) (i := 2) rfl l2 ?_
      refine kAaldT (len := 1) (n := 40) rfl (hT.hd (c := 8) (by decide) (by decide)) rfl (by omega) (by show i.toInt < 40; omega) (h.2.2.1 i.toInt.toNat hd).1 ?_
      refine kAload (len := 1) (i := 1) rfl l1 ?_
      refine kGetf (len := 3) (j := 600) rfl (hT.hd (c := 50) (by decide) (by decide)) (by decide) (hT.ref (c := 50) (i := 0) (g := 51) (by decide) (by decide) (by decide) (lo := 0) (hi' := 0) rfl rfl) ?_
      refine kIload (len := 1) (i := 2) rfl l2 ?_
      refine kAaldT (len := 1) (n := 40) rfl (hT.hd (c := 51) (by decide) (by decide)) rfl (by omega) (by show i.toInt < 40; omega) (h.2.2.1 i.toInt.toNat hd).2 ?_
      refine Ok.call (j := 31) (len := 3) rfl (Or.inr (Or.inl rfl)) (by decide) (mCall_31 hd1 (hdD hT hd)) ?_
      refine cpu_run (T := cRs T 0 2 i.toInt.toNat) (M0 := M0) (s := s) (mod := mod) hd hm rfl rfl ?_ 10 0 M rfl (by rw [cRow_0]; exact h)
      intro M1 h'
      rw [cRs_up (tt := 0) (ss := 2) (by decide)] at h'
      have hs1 : mSlot M1 50 2 = some (.int cnt) := by
        have q := h'.2.2.2.1.2.2.1 50 2 (by decide) (by decide) rfl (by decide) hm2
        have q0 := h.2.2.2.1.2.2.1 50 2 (by decide) (by decide) rfl (by decide) hm2
        rw [q, ← q0]
        exact hs
      have hT1 := h'.1
      obtain ⟨y, y1, y2, y3⟩ := hT1.int (c := 52) (i := i.toInt.toNat) (by decide) (by decide) hd (lo := 0) (hi' := 39) (gs := []) rfl
      refine kAload (mi := 94) (pc := 25) (len := 1) (i := 0) rfl l0 ?_
      refine kGetf (len := 3) (j := 601) rfl (hT1.hd (c := 7) (by decide) (by decide)) (by decide) (hT1.ref (c := 7) (i := 1) (g := 9) (by decide) (by decide) (by decide) (lo := 0) (hi' := 0) rfl rfl) ?_
      refine kIload (len := 1) (i := 2) rfl l2 ?_
      refine kAload (len := 1) (i := 1) rfl l1 ?_
      refine kGetf (len := 3) (j := 601) rfl (hT1.hd (c := 50) (by decide) (by decide)) (by decide) (hT1.ref (c := 50) (i := 1) (g := 52) (by decide) (by decide) (by decide) (lo := 0) (hi' := 0) rfl rfl) ?_
      refine kIload (len := 1) (i := 2) rfl l2 ?_
      refine kIald (len := 1) (n := 40) rfl (hT1.hd (c := 52) (by decide) (by decide)) (by omega) (by show i.toInt < 40; omega) y1 ?_
      refine kIast (len := 1) (n := 40) rfl (hT1.hd (c := 9) (by decide) (by decide)) (by decide) (by omega) (by show i.toInt < 40; omega) ?_
      refine kIinc (len := 3) rfl l2 (by decide) ?_
      refine kGoto (len := 3) (t := 2) rfl rfl ?_
      have c2 := CI_nq (a := 9) (i := i.toInt.toNat) (v := .int y) h' (by decide) (by decide) ⟨y, rfl, y2, y3⟩ rfl rfl (by decide) (by decide) (aFr_put (show memP (tGrp 9) (aSlK 9 i.toInt.toNat) mod = true from hmO))
      refine ih _ _ (i + 1) (by omega) (by omega) (by omega) (mLd_st1_ref (by decide) l0) (mLd_st1_ref (by decide) l1) mLd_st1_i ?_ ((mSlot_put_ne (Or.inl (by decide))).trans hs1)
      rw [show (i + 1).toInt.toNat = i.toInt.toNat + 1 by omega]
      exact c2

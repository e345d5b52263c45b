/-! measures at cuts, and when a contract holds -/
def dZ1 (a b : Nat) (t : Int) : AZ → Int
  | [] => t
  | (x, y, d) :: r => bif Nat.beq x a && Nat.beq y b then imin d (dZ1 a b t r) else dZ1 a b t r
def aDi (K : AK) (a b : Nat) : Int := dZ1 a b (aub K.1 a K.2.1 - alb K.1 b K.2.1) K.2.1
def dZ2 (K : AK) (a b : Nat) (t : Int) : AZ → Int
  | [] => t
  | (x, y, d) :: r => bif Nat.beq x a then imin (d + aDi K y b) (dZ2 K a b t r) else dZ2 K a b t r
/-- sigma a - sigma b is at most this -/
def aDub (K : AK) (a b : Nat) : Int := bif Nat.beq a b then 0 else dZ2 K a b (aDi K a b) K.2.1
section
variable {σ : Nat → Int} {K : AK}
theorem dZ1_ok {a b : Nat} {t : Int} (h0 : σ a - σ b ≤ t) : ∀ {Z : AZ}, (∀ a b c, (a, b, c) ∈ Z → σ a - σ b ≤ c) → σ a - σ b ≤ dZ1 a b t Z
  | [], _ => h0
  | (x, y, d) :: r, h => by
    have ih := dZ1_ok h0 (Z := r) (fun a b c hm => h a b c (List.mem_cons_of_mem _ hm))
    unfold dZ1
    cases hq : (Nat.beq x a && Nat.beq y b) with
    | false => exact ih
    | true =>
      rw [Bool.and_eq_true] at hq
      have e1 := Nat.eq_of_beq_eq_true hq.1
      have e2 := Nat.eq_of_beq_eq_true hq.2
      subst e1; subst e2
      exact imin_le (h _ _ _ List.mem_cons_self) ih
theorem aDi_ok (h : aNum σ K.1 K.2.1) {a b : Nat} (ha : a < K.1.length) (hb : b < K.1.length) : σ a - σ b ≤ aDi K a b := by
  have h1 := aub_ok h.2.1 ha K.2.1 h.2.2
  have h2 := alb_ok h.2.1 hb K.2.1 h.2.2
  exact dZ1_ok (by omega) (fun a b c hm => (h.2.2 a b c hm).2.2)
theorem dZ2_ok (h : aNum σ K.1 K.2.1) {a b : Nat} (hb : b < K.1.length) {t : Int} (h0 : σ a - σ b ≤ t) : ∀ {Z : AZ}, (∀ a b c, (a, b, c) ∈ Z → a < K.1.length ∧ b < K.1.length ∧ σ a - σ b ≤ c) → σ a - σ b ≤ dZ2 K a b t Z
  | [], _ => h0
  | (x, y, d) :: r, hz => by
    have ih := dZ2_ok h hb h0 (Z := r) (fun a b c hm => hz a b c (List.mem_cons_of_mem _ hm))
    unfold dZ2
    cases hq : Nat.beq x a with
    | false => exact ih
    | true =>
      have e1 := Nat.eq_of_beq_eq_true hq
      subst e1
      obtain ⟨_, z2, z3⟩ := hz _ _ _ List.mem_cons_self
      have := aDi_ok h z2 hb
      exact imin_le (by omega) ih
theorem aDub_ok (h : aNum σ K.1 K.2.1) {a b : Nat} (ha : a < K.1.length) (hb : b < K.1.length) : σ a - σ b ≤ aDub K a b := by
  unfold aDub
  cases hq : Nat.beq a b with
  | true =>
    have e := Nat.eq_of_beq_eq_true hq
    subst e
    dsimp only [cond_true]
    omega
  | false => exact dZ2_ok h hb (aDi_ok h ha hb) h.2.2
end
abbrev AM : Type := List (Nat × Nat × Int)
def mvs (σ : Nat → Int) : AM → List Int
  | [] => []
  | q :: r => (σ q.1 - σ q.2.1 + q.2.2) :: mvs σ r
def lexLt : List Int → List Int → Prop
  | x' :: r', x :: r => (x' < x ∧ 1 ≤ x) ∨ (x' ≤ x ∧ lexLt r' r)
  | _, _ => False
theorem lexInd {k : Nat} : ∀ (P : List Int → Prop), (∀ l, l.length = k → (∀ l', l'.length = k → lexLt l' l → P l') → P l) → ∀ l, l.length = k → P l := by
  induction k with
  | zero =>
    intro P step l hl
    cases l with
    | cons _ _ => cases hl
    | nil => exact step [] rfl (fun l' hl' h => by
        cases l' with
        | nil => exact h.elim
        | cons _ _ => cases hl')
  | succ k ih =>
    intro P step
    have claim : ∀ (n : Nat) (xs : List Int), xs.length = k → ∀ x : Int, x.toNat ≤ n → P (x :: xs) := by
      intro n
      induction n with
      | zero =>
        refine ih (fun xs => ∀ x : Int, x.toNat ≤ 0 → P (x :: xs)) ?_
        intro xs hx hi x h0
        refine step (x :: xs) (congrArg (· + 1) hx) ?_
        intro l' hl' hlt
        cases l' with
        | nil => exact hlt.elim
        | cons x' xs' =>
          have hl' : xs'.length = k := Nat.succ.inj hl'
          rcases hlt with ⟨h1, h2⟩ | ⟨h1, h2⟩
          · omega
          · exact hi xs' hl' h2 x' (by omega)
      | succ n ihn =>
        refine ih (fun xs => ∀ x : Int, x.toNat ≤ n + 1 → P (x :: xs)) ?_
        intro xs hx hi x h0
        refine step (x :: xs) (congrArg (· + 1) hx) ?_
        intro l' hl' hlt
        cases l' with
        | nil => exact hlt.elim
        | cons x' xs' =>
          have hl' : xs'.length = k := Nat.succ.inj hl'
          rcases hlt with ⟨h1, h2⟩ | ⟨h1, h2⟩
          · exact ihn xs' hl' x' (by omega)
          · exact hi xs' hl' h2 x' (by omega)
    intro l hl
    cases l with
    | nil => cases hl
    | cons x xs => exact claim x.toNat xs (Nat.succ.inj hl) x (Nat.le_refl _)
/-- the measure m' (its symbols written by θ) lies below m -/
def aLess (K : AK) (θ : ATh) : AM → AM → Bool
  | (a', b', c') :: r', (a, b, c) :: r => bif Nat.blt a' θ.length && Nat.blt b' θ.length && Nat.blt a K.1.length && Nat.blt b K.1.length then (bif ile (aDub K (tGet θ a').1 a + aDub K b (tGet θ b').1 + ((tGet θ a').2 - (tGet θ b').2 + c' - c)) (-1) && ile (aDub K b a) (c - 1) then true else bif ile (aDub K (tGet θ a').1 a + aDub K b (tGet θ b').1 + ((tGet θ a').2 - (tGet θ b').2 + c' - c)) 0 then aLess K θ r' r else false) else false
  | _, _ => false
theorem aLess_ok {σ : Nat → Int} {K : AK} {θ : ATh} (h : aNum σ K.1 K.2.1) (ht : tOk K.1.length θ) : ∀ {m' m : AM}, aLess K θ m' m = true → lexLt (mvs (tSig σ θ) m') (mvs σ m)
  | [], _, e => nomatch e
  | _ :: _, [], e => nomatch e
  | (a', b', c') :: r', (a, b, c) :: r, e => by
    unfold aLess at e
    cases hq : (Nat.blt a' θ.length && Nat.blt b' θ.length && Nat.blt a K.1.length && Nat.blt b K.1.length) with
    | false => rw [hq] at e; cases e
    | true =>
      rw [hq] at e
      dsimp only [cond_true] at e
      rw [Bool.and_eq_true, Bool.and_eq_true, Bool.and_eq_true] at hq
      have q1 : a' < θ.length := Nat.le_of_ble_eq_true hq.1.1.1
      have q2 : b' < θ.length := Nat.le_of_ble_eq_true hq.1.1.2
      have q3 : a < K.1.length := Nat.le_of_ble_eq_true hq.1.2
      have q4 : b < K.1.length := Nat.le_of_ble_eq_true hq.2
      have d1 := aDub_ok h (ht a' q1) q3
      have d2 := aDub_ok h q4 (ht b' q2)
      have d3 := aDub_ok h q4 q3
      have v1 : tSig σ θ a' = σ (tGet θ a').1 + (tGet θ a').2 := rfl
      have v2 : tSig σ θ b' = σ (tGet θ b').1 + (tGet θ b').2 := rfl
      unfold mvs lexLt
      dsimp only
      cases h1 : (ile (aDub K (tGet θ a').1 a + aDub K b (tGet θ b').1 + ((tGet θ a').2 - (tGet θ b').2 + c' - c)) (-1) && ile (aDub K b a) (c - 1)) with
      | true =>
        rw [Bool.and_eq_true] at h1
        have i1 := ile_iff.mp h1.1
        have i2 := ile_iff.mp h1.2
        exact Or.inl ⟨by omega, by omega⟩
      | false =>
        rw [h1] at e
        dsimp only [cond_false] at e
        cases h2 : ile (aDub K (tGet θ a').1 a + aDub K b (tGet θ b').1 + ((tGet θ a').2 - (tGet θ b').2 + c' - c)) 0 with
        | false => rw [h2] at e; cases e
        | true =>
          rw [h2] at e
          have i1 := ile_iff.mp h2
          exact Or.inr ⟨by omega, aLess_ok h ht e⟩
/-- place, what holds there, measure -/
abbrev CU : Type := Nat × AS × AM
def aFinR (p : Nat) (S : AS) : List AS → Bool
  | [] => false
  | o :: r => match aPreF o.1.2.2.2 S.1 with
    | none => aFinR p S r
    | some K => match aMatch (tIota 0 p) o (K, [], S.2.2) with
      | some _ => true
      | none => aFinR p S r
def aDec (K : AK) (θ : ATh) (m' : AM) (src : Option AM) : Bool := match src with
  | none => true
  | some m => aLess K θ m' m
def aFinC (p : Nat) (src : Option AM) (pc : Nat) (S : AS) : List CU → Bool
  | [] => false
  | q :: r => bif Nat.beq q.1 pc then (match aMatch (tIota 0 p) q.2.1 S with
    | some θ => bif aDec S.1 θ q.2.2 src then true else aFinC p src pc S r
    | none => aFinC p src pc S r) else aFinC p src pc S r
def aFin (c : CT) (cuts : List CU) (src : Option AM) (e : Nat × Nat × AS) : Bool := bif Nat.ble c.2.2.2.1.1.1.length e.2.2.1.1.length then (bif Nat.beq e.1 0 then aFinR c.2.2.2.1.1.1.length e.2.2 c.2.2.2.2.1 else aFinC c.2.2.2.1.1.1.length src e.2.1 e.2.2 cuts) else false
def aMok (n : Nat) : AM → Bool
  | [] => true
  | q :: r => bif Nat.blt q.1 n && Nat.blt q.2.1 n then aMok n r else false
theorem mvs_ext {σ σ' : Nat → Int} {n : Nat} (h : aExt n σ σ') : ∀ {m : AM}, aMok n m = true → mvs σ' m = mvs σ m
  | [], _ => rfl
  | q :: r, e => by
    unfold aMok at e
    cases hq : (Nat.blt q.1 n && Nat.blt q.2.1 n) with
    | false => rw [hq] at e; cases e
    | true =>
      rw [hq] at e
      rw [Bool.and_eq_true] at hq
      unfold mvs
      rw [mvs_ext h e, h q.1 (Nat.le_of_ble_eq_true hq.1), h q.2.1 (Nat.le_of_ble_eq_true hq.2)]
def cPcs : List CU → List Nat
  | [] => []
  | q :: r => q.1 :: cPcs r
def cChk (C : List CT) (G : List CG) (c : CT) (cuts : List CU) (fuel ml : Nat) : Bool :=
  aRun C G c.2.2.2.2.2 fuel c.2.2.1 c.1 (cPcs cuts) true c.2.1 c.2.2.2.1 (aFin c cuts none) && aAll (fun q => (Nat.beq q.2.2.length ml && Nat.ble c.2.2.2.1.1.1.length q.2.1.1.1.length && aMok q.2.1.1.1.length q.2.2) && aRun C G c.2.2.2.2.2 fuel c.2.2.1 c.1 (cPcs cuts) true q.1 q.2.1 (aFin c cuts (some q.2.2))) cuts
section
variable {scr : SG}
theorem tIota_tGet {p i : Nat} (h : i < p) : tGet (tIota 0 p) i = (i, 0) := by
  unfold tGet
  rw [List.getD_eq_getElem?_getD, tIota_get h, Nat.zero_add]
  rfl
theorem tIota_tOk {p n : Nat} (h : p ≤ n) : tOk n (tIota 0 p) := by
  intro s hs
  rw [tIota_len] at hs
  rw [tIota_tGet hs]
  show s < n
  omega
theorem tIota_ext {p : Nat} {σ : Nat → Int} {θ : ATh} (h : tPre (tIota 0 p) θ) : aExt p σ (tSig σ θ) := by
  intro i hi
  unfold tSig
  rw [h.get (by rw [tIota_len]; exact hi), tIota_tGet hi]
  exact Int.add_zero _
theorem aFinR_ok {p : Nat} {S : AS} {σ : Nat → Int} {L : MLoc} {st : List Value} {M : Mem} (hp : p ≤ S.1.1.length) (h : aHold scr σ S L st M) : ∀ {os : List AS}, aFinR p S os = true → ∃ o, o ∈ os ∧ ∃ σ', aExt p σ σ' ∧ aHold scr σ' o [] st M
  | [], e => nomatch e
  | o :: r, e => by
    unfold aFinR at e
    have tl : aFinR p S r = true → ∃ o', o' ∈ o :: r ∧ ∃ σ', aExt p σ σ' ∧ aHold scr σ' o' [] st M := by
      intro e
      obtain ⟨o', o1, o2⟩ := aFinR_ok hp h e
      exact ⟨o', List.mem_cons_of_mem _ o1, o2⟩
    cases hk : aPreF o.1.2.2.2 S.1 with
    | none => rw [hk] at e; exact tl e
    | some K =>
      rw [hk] at e
      dsimp only at e
      obtain ⟨σ1, x1, x2, x3⟩ := aPreF_ok h.2.2.2 h.1 hk
      cases hm : aMatch (tIota 0 p) o (K, [], S.2.2) with
      | none => rw [hm] at e; exact tl e
      | some θ =>
        have hH : aHold scr σ1 (K, [], S.2.2) [] st M := ⟨x3, (fun i v hv => by
          have hv : ([] : List AV)[i]? = some v := hv
          rw [List.getElem?_nil] at hv; cases hv), aSs_ext x1 x2 h.2.2.1, h.2.2.2⟩
        obtain ⟨t1, _, _, t4⟩ := aMatch_ok hH (tIota_tOk (Nat.le_trans hp x2)) hm
        refine ⟨o, List.mem_cons_self, _, ?_, t4⟩
        intro i hi
        rw [tIota_ext t1 i hi]
        exact x1 i (Nat.lt_of_lt_of_le hi hp)
theorem aFinC_ok {p : Nat} {src : Option AM} {pc : Nat} {S : AS} {σ : Nat → Int} {L : MLoc} {st : List Value} {M : Mem} (hp : p ≤ S.1.1.length) (h : aHold scr σ S L st M) : ∀ {cs : List CU}, aFinC p src pc S cs = true → ∃ q, q ∈ cs ∧ q.1 = pc ∧ ∃ σ', aExt p σ σ' ∧ aHold scr σ' q.2.1 L st M ∧ ∀ m, src = some m → lexLt (mvs σ' q.2.2) (mvs σ m)
  | [], e => nomatch e
  | q :: r, e => by
    unfold aFinC at e
    have tl : aFinC p src pc S r = true → ∃ q', q' ∈ q :: r ∧ q'.1 = pc ∧ ∃ σ', aExt p σ σ' ∧ aHold scr σ' q'.2.1 L st M ∧ ∀ m, src = some m → lexLt (mvs σ' q'.2.2) (mvs σ m) := by
      intro e
      obtain ⟨q', q1, q2⟩ := aFinC_ok hp h e
      exact ⟨q', List.mem_cons_of_mem _ q1, q2⟩
    cases hq : Nat.beq q.1 pc with
    | false => rw [hq] at e; exact tl e
    | true =>
      rw [hq] at e
      dsimp only [cond_true] at e
      cases hm : aMatch (tIota 0 p) q.2.1 S with
      | none => rw [hm] at e; exact tl e
      | some θ =>
        rw [hm] at e
        dsimp only at e
        cases hd : aDec S.1 θ q.2.2 src with
        | false => rw [hd] at e; exact tl e
        | true =>
          obtain ⟨t1, t2, _, t4⟩ := aMatch_ok h (tIota_tOk hp) hm
          refine ⟨q, List.mem_cons_self, Nat.eq_of_beq_eq_true hq, _, tIota_ext t1, t4, ?_⟩
          intro m em
          subst em
          exact aLess_ok h.1.2.1 t2 hd
theorem mvs_len {σ : Nat → Int} : ∀ {m : AM}, (mvs σ m).length = m.length
  | [] => rfl
  | _ :: _ => congrArg (· + 1) mvs_len
theorem aAnd2 {a b : Bool} (h : (a && b) = true) : a = true ∧ b = true := by
  rw [Bool.and_eq_true] at h; exact h
set_option maxHeartbeats 1000000 in
theorem cChk_ok {s : List Int32} {C : List CT} {G : List CG} {c : CT} {cuts : List CU} {fuel ml : Nat} (hC : ∀ c', c' ∈ C → cSound s c') (hG : ∀ c', c' ∈ G → gSound s c') (hk : cChk C G c cuts fuel ml = true) : cSound s c := by
  obtain ⟨k1, k2⟩ := aAnd2 hk
  intro γ0 d σ0 L0 M0 hd hH0
  generalize hQ : (fun (r : Option Value) (M' : Mem) => aFr c.2.2.2.2.2 M0 M' ∧ ∃ γ', gFr c.2.2.2.2.2 γ0 γ' ∧ ∃ o, o ∈ c.2.2.2.2.1 ∧ ∃ σ', aExt c.2.2.2.1.1.1.length σ0 σ' ∧ aHold (s, γ') σ' o [] r.toList M') = Q
  -- an end that answers
  have fin : ∀ (src : Option AM) (S' : AS) (γ' : Nat → Nat → Int32) (σ' : Nat → Int) (L' : MLoc) (r : Option Value) (M' : Mem), aFin c cuts src (0, 0, S') = true → aExt c.2.2.2.1.1.1.length σ0 σ' → aHold (s, γ') σ' S' L' r.toList M' → aFr c.2.2.2.2.2 M0 M' → gFr c.2.2.2.2.2 γ0 γ' → Q r M' := by
    intro src S' γ' σ' L' r M' hf hx hH hfr hgf
    rw [← hQ]
    unfold aFin at hf
    dsimp only at hf
    cases hp : Nat.ble c.2.2.2.1.1.1.length S'.1.1.length with
    | false => rw [hp] at hf; cases hf
    | true =>
      rw [hp] at hf
      have hp := Nat.le_of_ble_eq_true hp
      have hf : aFinR c.2.2.2.1.1.1.length S' c.2.2.2.2.1 = true := hf
      obtain ⟨o, o1, σ'', o2, o3⟩ := aFinR_ok hp hH hf
      exact ⟨hfr, γ', hgf, o, o1, σ'', hx.tr o2 (Nat.le_refl _), o3⟩
  have cut : ∀ (src : Option AM) (pc : Nat) (S' : AS) (γ' : Nat → Nat → Int32) (σ' : Nat → Int) (L' : MLoc) (st' : List Value) (M' : Mem), aFin c cuts src (1, pc, S') = true → aExt c.2.2.2.1.1.1.length σ0 σ' → aHold (s, γ') σ' S' L' st' M' → ∃ q, q ∈ cuts ∧ q.1 = pc ∧ ∃ σ'', aExt c.2.2.2.1.1.1.length σ0 σ'' ∧ aHold (s, γ') σ'' q.2.1 L' st' M' ∧ ∀ m, src = some m → lexLt (mvs σ'' q.2.2) (mvs σ' m) := by
    intro src pc S' γ' σ' L' st' M' hf hx hH
    unfold aFin at hf
    dsimp only at hf
    cases hp : Nat.ble c.2.2.2.1.1.1.length S'.1.1.length with
    | false => rw [hp] at hf; cases hf
    | true =>
      rw [hp] at hf
      have hp := Nat.le_of_ble_eq_true hp
      have hf : aFinC c.2.2.2.1.1.1.length src pc S' cuts = true := hf
      obtain ⟨q, q1, q2, σ'', q3, q4, q5⟩ := aFinC_ok hp hH hf
      exact ⟨q, q1, q2, σ'', hx.tr q3 (Nat.le_refl _), q4, q5⟩
  have loop : ∀ l : List Int, l.length = ml → ∀ q, q ∈ cuts → ∀ (γ : Nat → Nat → Int32) (σ : Nat → Int) (L : MLoc) (st : List Value) (M : Mem), aHold (s, γ) σ q.2.1 L st M → mvs σ q.2.2 = l → aExt c.2.2.2.1.1.1.length σ0 σ → aFr c.2.2.2.2.2 M0 M → gFr c.2.2.2.2.2 γ0 γ → Ok d c.1 q.1 L st M Q := by
    refine lexInd _ ?_
    intro l hl ih q hq γ σ L st M hH hm hx hfr hgf
    obtain ⟨k3, k4⟩ := aAnd2 (aAll_mem k2 q hq)
    obtain ⟨k35, k7⟩ := aAnd2 k3
    obtain ⟨k5, k6⟩ := aAnd2 k35
    have k5 := Nat.eq_of_beq_eq_true k5
    have k6 := Nat.le_of_ble_eq_true k6
    refine aRun_ok hC hG fuel c.2.2.1 c.1 (cPcs cuts) true q.1 q.2.1 _ k4 γ d σ L st M Q hd hH ?_ ?_
    · intro S' γ' σ' L' r M' kf x1 x2 hH' f1 gf1
      exact fin _ S' γ' σ' L' r M' kf (hx.tr x1 k6) hH' (hfr.tr f1) (hgf.tr gf1)
    · intro pc' S' γ' σ' L' st' M' kf x1 x2 hH' f1 gf1
      obtain ⟨q', q1, q2, σ'', q3, q4, q5⟩ := cut _ pc' S' γ' σ' L' st' M' kf (hx.tr x1 k6) hH'
      rw [← q2]
      have hlen : (mvs σ'' q'.2.2).length = ml := by
        rw [mvs_len]
        obtain ⟨k3', _⟩ := aAnd2 (aAll_mem k2 q' q1)
        exact Nat.eq_of_beq_eq_true (aAnd2 (aAnd2 k3').1).1
      have hlt := q5 _ rfl
      have em : mvs σ' q.2.2 = mvs σ q.2.2 := mvs_ext x1 k7
      rw [em, hm] at hlt
      exact ih _ hlen hlt q' q1 γ' σ'' L' st' M' q4 rfl q3 (hfr.tr f1) (hgf.tr gf1)
  refine aRun_ok hC hG fuel c.2.2.1 c.1 (cPcs cuts) true c.2.1 c.2.2.2.1 _ k1 γ0 d σ0 L0 [] M0 Q hd hH0 ?_ ?_
  · intro S' γ' σ' L' r M' kf x1 x2 hH' f1 gf1
    exact fin _ S' γ' σ' L' r M' kf x1 hH' f1 gf1
  · intro pc' S' γ' σ' L' st' M' kf x1 x2 hH' f1 gf1
    obtain ⟨q', q1, q2, σ'', q3, q4, _⟩ := cut _ pc' S' γ' σ' L' st' M' kf x1 hH'
    rw [← q2]
    have hlen : (mvs σ'' q'.2.2).length = ml := by
      rw [mvs_len]
      obtain ⟨k3', _⟩ := aAnd2 (aAll_mem k2 q' q1)
      exact Nat.eq_of_beq_eq_true (aAnd2 (aAnd2 k3').1).1
    exact loop _ hlen q' q1 γ' σ'' L' st' M' q4 rfl q3 f1 gf1
end

/-! contracts, and the interpreter's run of a method -/
/-- method, place, depth, entry, outcomes, what it may change -/
abbrev CT : Type := Nat × Nat × Nat × AS × List AS × List (Nat × Nat)
def cSound (s : List Int32) (c : CT) : Prop := ∀ γ d σ L M, c.2.2.1 ≤ d → aHold (s, γ) σ c.2.2.2.1 L [] M → Ok d c.1 c.2.1 L [] M (fun r M' => aFr c.2.2.2.2.2 M M' ∧ ∃ γ', gFr c.2.2.2.2.2 γ γ' ∧ ∃ o, o ∈ c.2.2.2.2.1 ∧ ∃ σ', aExt c.2.2.2.1.1.1.length σ σ' ∧ aHold (s, γ') σ' o [] r.toList M')
/-- a piece of a method: method, place, next place, depth, entry (its stack is taken), outcomes (their stack is laid), what it may change, the locals that it spends -/
abbrev CG : Type := Nat × Nat × Nat × Nat × AS × List AS × List (Nat × Nat) × List Nat
def aInN (i : Nat) : List Nat → Bool
  | [] => false
  | k :: r => bif Nat.beq k i then true else aInN i r
def gSound (s : List Int32) (c : CG) : Prop := ∀ γ d σ L st0 st M Q, (c.2.2.2.1 ≤ d ∧ (1 ≤ c.2.2.2.1 → st = [])) → aHold (s, γ) σ c.2.2.2.2.1 L st0 M → (∀ γ' σ' o L' st' M', o ∈ c.2.2.2.2.2.1 → (∀ i, aInN i c.2.2.2.2.2.2.2 = false → mLd L' i = mLd L i) → aFr c.2.2.2.2.2.2.1 M M' → gFr c.2.2.2.2.2.2.1 γ γ' → aExt c.2.2.2.2.1.1.1.length σ σ' → aHold (s, γ') σ' o [] st' M' → Ok d c.1 c.2.2.1 L' (st' ++ st) M' Q) → Ok d c.1 c.2.1 L (st0 ++ st) M Q
def aRetOk (mi : Nat) (ins : Instr) (S : AS) : Bool := match ins with
  | .ireturn => (match S.2.2 with
    | [v] => Nat.beq v.1 1 && (Nat.beq (mIT mi).2.2.1 1 || (Nat.beq (mIT mi).2.2.1 2 && (ile 0 (aLo S.1 v.2.1 v.2.2) && ile (aHi S.1 v.2.1 v.2.2) 1)))
    | _ => false)
  | .lreturn => (match S.2.2 with
    | [v] => Nat.beq v.1 3 && Nat.beq (mIT mi).2.2.1 3
    | _ => false)
  | .areturn => (match S.2.2 with
    | [v] => Nat.beq v.1 2 && Nat.beq (mIT mi).2.2.1 4
    | _ => false)
  | .return_ => (match S.2.2 with
    | [] => Nat.beq (mIT mi).2.2.1 0
    | _ => false)
  | _ => false
section
variable {scr : SG} {σ : Nat → Int} {S : AS} {L : MLoc} {st : List Value} {M : Mem}
theorem i32_zo {x : Int32} (h1 : 0 ≤ x.toInt) (h2 : x.toInt ≤ 1) : x = 0 ∨ x = 1 := by
  have : x.toInt = 0 ∨ x.toInt = 1 := by omega
  rcases this with h | h
  · exact Or.inl (Int32.toInt_inj.mp (h.trans (by decide)))
  · exact Or.inr (Int32.toInt_inj.mp (h.trans (by decide)))
theorem aRetOk_ok {mi : Nat} {ins : Instr} (h : aHold scr σ S L st M) (ho : aRetOk mi ins S = true) : ∃ r, mRet mi ins st M = some (r, M) ∧ st = r.toList := by
  obtain ⟨K, A, T⟩ := S
  have hs := h.2.2.1
  unfold aRetOk at ho
  cases ins with
  | ireturn =>
    dsimp only at ho
    match T, hs, ho with
    | [], _, ho => cases ho
    | _ :: _ :: _, _, ho => cases ho
    | [v], hs, ho =>
      obtain ⟨w, r, rfl, g1, s1⟩ := aSs_cons hs
      dsimp only at ho
      rw [Bool.and_eq_true] at ho
      obtain ⟨x, rfl, x1, x2⟩ := aG_int g1 ho.1
      have b := aLoHi (K := K) h.1 x1 x2
      have er : r = [] := by
        cases r with
        | nil => rfl
        | cons _ _ => exact s1.elim
      subst er
      refine ⟨some (.int x), ?_, rfl⟩
      unfold mRet
      dsimp only
      refine if_pos ?_
      rw [Bool.or_eq_true] at ho
      rcases ho.2 with h1 | h1
      · exact Or.inl (Nat.eq_of_beq_eq_true h1)
      · rw [Bool.and_eq_true, Bool.and_eq_true] at h1
        have h2 := ile_iff.mp h1.2.1
        have h3 := ile_iff.mp h1.2.2
        exact Or.inr ⟨Nat.eq_of_beq_eq_true h1.1, i32_zo (by omega) (by omega)⟩
  | lreturn =>
    dsimp only at ho
    match T, hs, ho with
    | [], _, ho => cases ho
    | _ :: _ :: _, _, ho => cases ho
    | [v], hs, ho =>
      obtain ⟨w, r, rfl, g1, s1⟩ := aSs_cons hs
      dsimp only at ho
      rw [Bool.and_eq_true] at ho
      obtain ⟨k, s, c⟩ := v
      have e := Nat.eq_of_beq_eq_true ho.1
      dsimp only at e
      subst e
      obtain ⟨x, rfl⟩ := g1
      have er : r = [] := by
        cases r with
        | nil => rfl
        | cons _ _ => exact s1.elim
      subst er
      refine ⟨some (.long x), ?_, rfl⟩
      unfold mRet
      exact if_pos (Nat.eq_of_beq_eq_true ho.2)
  | areturn =>
    dsimp only at ho
    match T, hs, ho with
    | [], _, ho => cases ho
    | _ :: _ :: _, _, ho => cases ho
    | [v], hs, ho =>
      obtain ⟨w, r, rfl, g1, s1⟩ := aSs_cons hs
      dsimp only at ho
      rw [Bool.and_eq_true] at ho
      obtain ⟨a, rfl, a1, a2, a3⟩ := aG_ref g1 ho.1
      have er : r = [] := by
        cases r with
        | nil => rfl
        | cons _ _ => exact s1.elim
      subst er
      refine ⟨some (.ref a), ?_, rfl⟩
      unfold mRet
      exact if_pos (Nat.eq_of_beq_eq_true ho.2)
  | return_ =>
    dsimp only at ho
    match T, hs, ho with
    | _ :: _, _, ho => cases ho
    | [], hs, ho =>
      have er : st = [] := by
        cases st with
        | nil => rfl
        | cons _ _ => exact hs.elim
      subst er
      refine ⟨none, ?_, rfl⟩
      unfold mRet
      exact if_pos (Nat.eq_of_beq_eq_true ho)
  | _ => cases ho
/-- the machine's own members, at depth h -/
def aPrim (h j : Nat) (S : AS) : Option (List AS) :=
  bif Nat.beq j 901 && Nat.ble 1 h then aCpy S else bif Nat.beq j 902 && Nat.ble 6 h then aIxO S else bif Nat.beq j 903 && Nat.ble 1 h then aMx true S else bif Nat.beq j 904 && Nat.ble 1 h then aMx false S else none
theorem aPrim_ok {mod : List (Nat × Nat)} {hh d j : Nat} {outs : List AS} (hd : hh ≤ d) (h : aHold scr σ S L st M) (ho : aPrim hh j S = some outs) : aGoP scr σ S.1.1.length mod L M outs (mPrim d j st M) := by
  unfold aPrim at ho
  cases h1 : (Nat.beq j 901 && Nat.ble 1 hh) with
  | true =>
    rw [h1] at ho
    rw [Bool.and_eq_true] at h1
    have e := Nat.eq_of_beq_eq_true h1.1
    subst e
    exact aCpy_ok (Nat.le_trans (Nat.le_of_ble_eq_true h1.2) hd) h ho
  | false =>
    rw [h1] at ho
    cases h2 : (Nat.beq j 902 && Nat.ble 6 hh) with
    | true =>
      rw [h2] at ho
      rw [Bool.and_eq_true] at h2
      have e := Nat.eq_of_beq_eq_true h2.1
      subst e
      exact aIxO_ok (Nat.le_trans (Nat.le_of_ble_eq_true h2.2) hd) h ho
    | false =>
      rw [h2] at ho
      cases h3 : (Nat.beq j 903 && Nat.ble 1 hh) with
      | true =>
        rw [h3] at ho
        rw [Bool.and_eq_true] at h3
        have e := Nat.eq_of_beq_eq_true h3.1
        subst e
        exact aMax_ok (Nat.le_trans (Nat.le_of_ble_eq_true h3.2) hd) h ho
      | false =>
        rw [h3] at ho
        cases h4 : (Nat.beq j 904 && Nat.ble 1 hh) with
        | true =>
          rw [h4] at ho
          rw [Bool.and_eq_true] at h4
          have e := Nat.eq_of_beq_eq_true h4.1
          subst e
          exact aMin_ok (Nat.le_trans (Nat.le_of_ble_eq_true h4.2) hd) h ho
        | false => rw [h4] at ho; cases ho
/-- a call's arguments in their order -/
def aTak (j : Nat) (T : List AV) : List AV := (T.take (mIT j).1).reverse
def aRcv (q : MInf) (A : List AV) : Bool := Nat.beq q.2.2.2.2 0 || (match A with
  | v :: _ => Nat.beq v.1 2 && (Nat.beq q.2.2.2.2 2 || (Nat.beq q.2.2.2.2 1 && Nat.beq (tTag v.2.1) q.2.2.2.1))
  | [] => false)
def aCallOk (h j : Nat) (S : AS) : Bool :=
  (Nat.ble 1 h && Nat.blt j 282 && Nat.ble (mIT j).1 S.2.2.length && Nat.ble (aCats (S.2.2.drop (mIT j).1)) 8) && (aNz0 (aTak j S.2.2) && Nat.ble (aArgs (aTak j S.2.2)).length (mIT j).2.1 && aRcv (mIT j) (aTak j S.2.2))
theorem aCallOk_ok {hh d j : Nat} (hd : hh ≤ d) (h : aHold scr σ S L st M) (ho : aCallOk hh j S = true) : 1 ≤ hh ∧ ∃ as rest, mCall d j st M = some (as, rest) ∧ aSs scr σ S.1.1.length (S.2.2.drop (mIT j).1) rest ∧ aLs scr σ S.1.1.length (aArgs (aTak j S.2.2)) (lv_args 0 as) := by
  obtain ⟨K, A, T⟩ := S
  obtain ⟨h1, h2, h3, h4⟩ := h
  unfold aCallOk at ho
  simp only [Bool.and_eq_true] at ho
  obtain ⟨⟨⟨⟨p1, p2⟩, p3⟩, p4⟩, ⟨p5, p6⟩, p7⟩ := ho
  have p1 := Nat.le_of_ble_eq_true p1
  have p2 : j < 282 := Nat.le_of_ble_eq_true p2
  have p3 := Nat.le_of_ble_eq_true p3
  have p4 := Nat.le_of_ble_eq_true p4
  have p6 := Nat.le_of_ble_eq_true p6
  have ha := aSs_rev (aSs_take (mIT j).1 h3)
  have hr := aSs_drop (mIT j).1 h3
  obtain ⟨e1, e2⟩ := aArgs_ok (k := 0) ha p5
  refine ⟨p1, (st.take (mIT j).1).reverse, st.drop (mIT j).1, ?_, hr, ?_⟩
  · unfold mCall
    dsimp only
    refine if_pos ⟨⟨by omega, p2, ?_, ?_, ?_⟩, ?_⟩
    · have := aSs_len h3
      dsimp only at p3 this
      omega
    · have := aCats_ok hr
      dsimp only at p4 this
      omega
    · rw [e1]; exact p6
    · unfold aRcv at p7
      rw [Bool.or_eq_true] at p7
      rcases p7 with p7 | p7
      · exact Or.inl (Nat.eq_of_beq_eq_true p7)
      · have ha : aSs scr σ K.1.length (aTak j T) ((st.take (mIT j).1).reverse) := ha
        have p7 : (match aTak j T with
          | v :: _ => Nat.beq v.1 2 && (Nat.beq (mIT j).2.2.2.2 2 || (Nat.beq (mIT j).2.2.2.2 1 && Nat.beq (tTag v.2.1) (mIT j).2.2.2.1))
          | [] => false) = true := p7
        generalize aTak j T = X at ha p7
        generalize (st.take (mIT j).1).reverse = Y at ha
        match X, ha, p7 with
        | [], _, p7 => cases p7
        | v :: X, ha, p7 =>
          obtain ⟨w, r, rfl, g1, s1⟩ := aSs_cons ha
          dsimp only at p7
          rw [Bool.and_eq_true, Bool.or_eq_true, Bool.and_eq_true] at p7
          obtain ⟨a, rfl, a1, a2, a3⟩ := aG_ref g1 p7.1
          rcases p7.2 with p8 | p8
          · exact Or.inr (Or.inr ⟨Nat.eq_of_beq_eq_true p8, rfl⟩)
          · refine Or.inr (Or.inl ⟨Nat.eq_of_beq_eq_true p8.1, ?_⟩)
            obtain ⟨fs, m1, _⟩ := h4.2.2.1 a a1 a2
            show (match M[a]? with
              | some (t, _) => t
              | none => 999) = _
            rw [m1, a3]
            exact Nat.eq_of_beq_eq_true p8.2
  · intro i v hv
    have := e2 i v hv
    rw [Nat.zero_add] at this
    exact this
def aSubM (m : List (Nat × Nat)) : List (Nat × Nat) → Bool
  | [] => true
  | q :: r => bif memP q.1 q.2 m then aSubM m r else false
theorem memP_of {g i : Nat} : ∀ {m : List (Nat × Nat)}, memP g i m = true → ∃ q, q ∈ m ∧ q.1 = g ∧ q.2 = i
  | [], h => nomatch h
  | (x, y) :: r, h => by
    unfold memP at h
    cases hq : (Nat.beq x g && Nat.beq y i) with
    | true =>
      rw [Bool.and_eq_true] at hq
      exact ⟨_, List.mem_cons_self, Nat.eq_of_beq_eq_true hq.1, Nat.eq_of_beq_eq_true hq.2⟩
    | false =>
      rw [hq] at h
      obtain ⟨q, q1, q2⟩ := memP_of h
      exact ⟨q, List.mem_cons_of_mem _ q1, q2⟩
theorem aSubM_mem {m : List (Nat × Nat)} : ∀ {m' : List (Nat × Nat)}, aSubM m m' = true → ∀ q, q ∈ m' → memP q.1 q.2 m = true
  | [], _, _, h => nomatch h
  | p :: r, h, q, hq => by
    unfold aSubM at h
    cases hp : memP p.1 p.2 m with
    | false => rw [hp] at h; cases h
    | true =>
      rw [hp] at h
      cases List.mem_cons.mp hq with
      | inl e => rw [e]; exact hp
      | inr e => exact aSubM_mem h q e
theorem aFr_sub {m m' : List (Nat × Nat)} {M M' : Mem} (hs : aSubM m m' = true) (h : aFr m' M M') : aFr m M M' := by
  have key : ∀ g i, memP g i m = false → memP g i m' = false := by
    intro g i hm
    cases hq : memP g i m' with
    | false => rfl
    | true =>
      obtain ⟨q, q1, q2, q3⟩ := memP_of hq
      have := aSubM_mem hs q q1
      rw [q2, q3, hm] at this
      cases this
  exact ⟨h.1, h.2.1, fun c i a b e f hm => h.2.2.1 c i a b e f (key _ _ hm), fun c i a b e hm => h.2.2.2 c i a b e (key _ _ hm)⟩
theorem gFr_sub {m m' : List (Nat × Nat)} {γ γ' : Nat → Nat → Int32} (hs : aSubM m m' = true) (h : gFr m' γ γ') : gFr m γ γ' := by
  intro g i hg hm
  refine h g i hg ?_
  cases hq : memP g i m' with
  | false => rfl
  | true =>
    obtain ⟨q, q1, q2, q3⟩ := memP_of hq
    have := aSubM_mem hs q q1
    rw [q2, q3, hm] at this
    cases this
def aGeL (n : Nat) : List AS → Bool
  | [] => true
  | o :: r => bif Nat.ble n o.1.1.length then aGeL n r else false
theorem aGeL_mem {n : Nat} : ∀ {os : List AS}, aGeL n os = true → ∀ o, o ∈ os → n ≤ o.1.1.length
  | [], _, _, h => nomatch h
  | p :: r, h, o, ho => by
    unfold aGeL at h
    cases hp : Nat.ble n p.1.1.length with
    | false => rw [hp] at h; cases h
    | true =>
      rw [hp] at h
      cases List.mem_cons.mp ho with
      | inl e => rw [e]; exact Nat.le_of_ble_eq_true hp
      | inr e => exact aGeL_mem h o e
/-- no symbol that the outcome's differences name has been driven into a corner -/
def aCsn (K : AK) (θ : ATh) : AZ → Bool
  | [] => true
  | (a, b, c) :: r => bif (ile (alb K.1 (tGet θ a).1 K.2.1) (aub K.1 (tGet θ a).1 K.2.1) && ile (alb K.1 (tGet θ b).1 K.2.1) (aub K.1 (tGet θ b).1 K.2.1)) && !(ent K.1 K.2.1 (tGet θ b).1 (tGet θ a).1 (-(c - (tGet θ a).2 + (tGet θ b).2) - 1)) then aCsn K θ r else false
theorem aCsn_ok {σ : Nat → Int} {K : AK} {θ : ATh} (h : aNum σ K.1 K.2.1) : ∀ {Z : AZ}, (∀ z, z ∈ Z → (tGet θ z.1).1 < K.1.length ∧ (tGet θ z.2.1).1 < K.1.length ∧ σ (tGet θ z.1).1 - σ (tGet θ z.2.1).1 ≤ z.2.2 - (tGet θ z.1).2 + (tGet θ z.2.1).2) → aCsn K θ Z = true
  | [], _ => rfl
  | (a, b, c) :: r, hz => by
    obtain ⟨h1, h2, h3⟩ := hz _ List.mem_cons_self
    have hn : ent K.1 K.2.1 (tGet θ b).1 (tGet θ a).1 (-(c - (tGet θ a).2 + (tGet θ b).2) - 1) = false := by
      cases hq : ent K.1 K.2.1 (tGet θ b).1 (tGet θ a).1 (-(c - (tGet θ a).2 + (tGet θ b).2) - 1) with
      | false => rfl
      | true =>
        have h4 : σ (tGet θ b).1 - σ (tGet θ a).1 ≤ -(c - (tGet θ a).2 + (tGet θ b).2) - 1 := ent_ok h h2 h1 hq
        have h3 : σ (tGet θ a).1 - σ (tGet θ b).1 ≤ c - (tGet θ a).2 + (tGet θ b).2 := h3
        omega
    have a1 := aub_ok h.2.1 h1 K.2.1 h.2.2
    have a2 := alb_ok h.2.1 h1 K.2.1 h.2.2
    have b1 := aub_ok h.2.1 h2 K.2.1 h.2.2
    have b2 := alb_ok h.2.1 h2 K.2.1 h.2.2
    unfold aCsn
    rw [ile_iff.mpr (Int.le_trans a2 a1), ile_iff.mpr (Int.le_trans b2 b1), hn]
    exact aCsn_ok h (fun z hm => hz z (List.mem_cons_of_mem _ hm))
theorem aGlue_lt {K : AK} {θ : ATh} {mod : List (Nat × Nat)} {A r : List AV} {O : AS} (ht : tOk K.1.length θ) (hp : θ.length ≤ O.1.1.length) {s : Nat} (hs : s < O.1.1.length) : (tGet (θ ++ tIota K.1.length (O.1.1.length - θ.length)) s).1 < (aGlue K θ mod A r O).1.1.length := by
  have hlen : (aGlue K θ mod A r O).1.1.length = K.1.length + (O.1.1.length - θ.length) := by
    show (K.1 ++ O.1.1.drop θ.length).length = _
    rw [List.length_append, List.length_drop]
  rw [hlen]
  cases Nat.lt_or_ge s θ.length with
  | inl h =>
    have e : tGet (θ ++ tIota K.1.length (O.1.1.length - θ.length)) s = tGet θ s := by
      unfold tGet
      rw [List.getD_eq_getElem?_getD, List.getD_eq_getElem?_getD, List.getElem?_append_left h]
    rw [e]
    have := ht s h
    omega
  | inr h =>
    have e : tGet (θ ++ tIota K.1.length (O.1.1.length - θ.length)) s = (K.1.length + (s - θ.length), 0) := by
      unfold tGet
      rw [List.getD_eq_getElem?_getD, List.getElem?_append_right h, tIota_get (by omega)]
      rfl
    rw [e]
    show K.1.length + (s - θ.length) < _
    omega
def aGlues (K : AK) (θ : ATh) (mod : List (Nat × Nat)) (A r : List AV) : List AS → List AS
  | [] => []
  | O :: os => bif aCsn (aGlue K θ mod A r O).1 (θ ++ tIota K.1.length (O.1.1.length - θ.length)) O.1.2.1 then aGlue K θ mod A r O :: aGlues K θ mod A r os else aGlues K θ mod A r os
theorem aGlues_mem {σ : Nat → Int} {K : AK} {θ : ATh} {mod : List (Nat × Nat)} {A r : List AV} {O : AS} (h : aNum σ (aGlue K θ mod A r O).1.1 (aGlue K θ mod A r O).1.2.1) (hz : ∀ z, z ∈ O.1.2.1 → (tGet (θ ++ tIota K.1.length (O.1.1.length - θ.length)) z.1).1 < (aGlue K θ mod A r O).1.1.length ∧ (tGet (θ ++ tIota K.1.length (O.1.1.length - θ.length)) z.2.1).1 < (aGlue K θ mod A r O).1.1.length) : ∀ {os : List AS}, O ∈ os → aGlue K θ mod A r O ∈ aGlues K θ mod A r os
  | [], e => nomatch e
  | P :: os, e => by
    unfold aGlues
    cases List.mem_cons.mp e with
    | inl e =>
      subst e
      rw [aCsn_ok h (fun z hm => ⟨(hz z hm).1, (hz z hm).2, (h.2.2 _ _ _ (List.mem_append_left _ (List.mem_map_of_mem (f := tMapZ (θ ++ tIota K.1.length (O.1.1.length - θ.length))) hm))).2.2⟩)]
      exact List.mem_cons_self
    | inr e =>
      have ih := aGlues_mem h hz e
      cases aCsn (aGlue K θ mod A r P).1 (θ ++ tIota K.1.length (P.1.1.length - θ.length)) P.1.2.1 with
      | true => exact List.mem_cons_of_mem _ ih
      | false => exact ih
/-- one contract at a call -/
def aCon1 (mod : List (Nat × Nat)) (h j : Nat) (S : AS) (c : CT) : Option (List AS) :=
  bif Nat.beq c.1 j && Nat.beq c.2.1 0 && Nat.blt c.2.2.1 h && aSubM mod c.2.2.2.2.2 then (match aPreF c.2.2.2.1.1.2.2.2 S.1 with
    | none => none
    | some K1 => match aMatch [(0, 0)] c.2.2.2.1 (K1, aArgs (aTak j S.2.2), []) with
      | none => none
      | some θ => bif aGeL θ.length c.2.2.2.2.1 then some (aGlues K1 θ c.2.2.2.2.2 S.2.1 (S.2.2.drop (mIT j).1) c.2.2.2.2.1) else none) else none
def aCon (mod : List (Nat × Nat)) (h j : Nat) (S : AS) : List CT → Option (List AS)
  | [] => none
  | c :: C => match aCon1 mod h j S c with
    | some o => some o
    | none => aCon mod h j S C
theorem aCon_mem {mod : List (Nat × Nat)} {h j : Nat} {outs : List AS} : ∀ {C : List CT}, aCon mod h j S C = some outs → ∃ c, c ∈ C ∧ aCon1 mod h j S c = some outs
  | [], e => nomatch e
  | c :: C, e => by
    unfold aCon at e
    cases hc : aCon1 mod h j S c with
    | some o =>
      rw [hc] at e
      cases e
      exact ⟨c, List.mem_cons_self, hc⟩
    | none =>
      rw [hc] at e
      obtain ⟨c', c1, c2⟩ := aCon_mem e
      exact ⟨c', List.mem_cons_of_mem _ c1, c2⟩
theorem aCon1_ok {s : List Int32} {γ : Nat → Nat → Int32} {mod : List (Nat × Nat)} {hh d j : Nat} {outs : List AS} {c : CT} {as rest : List Value} (hc : cSound s c) (hd : hh ≤ d) (h : aHold (s, γ) σ S L st M) (hr : aSs (s, γ) σ S.1.1.length (S.2.2.drop (mIT j).1) rest) (hl : aLs (s, γ) σ S.1.1.length (aArgs (aTak j S.2.2)) (lv_args 0 as)) (ho : aCon1 mod hh j S c = some outs) :
    Ok (d - 1) j 0 (lv_args 0 as) [] M (fun r M' => ∃ q, q ∈ outs ∧ ∃ γ' σ', aExt S.1.1.length σ σ' ∧ S.1.1.length ≤ q.1.1.length ∧ aHold (s, γ') σ' q L (r.toList ++ rest) M' ∧ aFr mod M M' ∧ gFr mod γ γ') := by
  obtain ⟨K, A, T⟩ := S
  unfold aCon1 at ho
  dsimp only at ho
  cases hq : (Nat.beq c.1 j && Nat.beq c.2.1 0 && Nat.blt c.2.2.1 hh && aSubM mod c.2.2.2.2.2) with
  | false => rw [hq] at ho; cases ho
  | true =>
    rw [hq] at ho
    dsimp only [cond_true] at ho
    rw [Bool.and_eq_true, Bool.and_eq_true, Bool.and_eq_true] at hq
    have q1 := Nat.eq_of_beq_eq_true hq.1.1.1
    have q2 := Nat.eq_of_beq_eq_true hq.1.1.2
    have q3 : c.2.2.1 < hh := Nat.le_of_ble_eq_true hq.1.2
    cases hp : aPreF c.2.2.2.1.1.2.2.2 K with
    | none => rw [hp] at ho; cases ho
    | some K1 =>
      rw [hp] at ho
      dsimp only at ho
      obtain ⟨σ1, e1, e2, e3⟩ := aPreF_ok h.2.2.2 h.1 hp
      cases hm : aMatch [(0, 0)] c.2.2.2.1 (K1, aArgs (aTak j T), []) with
      | none => rw [hm] at ho; cases ho
      | some θ =>
        rw [hm] at ho
        dsimp only at ho
        cases hg : aGeL θ.length c.2.2.2.2.1 with
        | false => rw [hg] at ho; cases ho
        | true =>
          rw [hg] at ho
          cases ho
          have hH : aHold (s, γ) σ1 (K1, aArgs (aTak j T), []) (lv_args 0 as) [] M := ⟨e3, aLs_ext e1 e2 hl, True.intro, h.2.2.2⟩
          obtain ⟨t1, t2, t3, t4⟩ := aMatch_ok hH (by
            intro s hs
            have : s = 0 := by
              have : s < 1 := hs
              omega
            subst this
            exact e3.1) hm
          have key := hc γ (d - 1) (tSig σ1 θ) (lv_args 0 as) M (by omega) t4
          rw [q1, q2] at key
          refine key.mono ?_
          intro r M' ⟨f1, γ', f2, o, o1, σc, o2, o3⟩
          rw [← t3] at o2
          obtain ⟨σ', g1, g2, g3⟩ := aGlue_ok (scr := (s, γ)) (scr' := (s, γ')) rfl (mod := c.2.2.2.2.2) (A := A) (r := T.drop (mIT j).1) (L := L) (st := rest) e3 (aLs_ext e1 e2 h.2.1) (aSs_ext e1 e2 hr) t2 o2 o3 (aGeL_mem hg o o1) f1 f2
          exact ⟨_, aGlues_mem g3.1.2.1 (fun z hz => by
            obtain ⟨z1, z2, _⟩ := o3.1.2.1.2.2 z.1 z.2.1 z.2.2 hz
            exact ⟨aGlue_lt t2 (aGeL_mem hg o o1) z1, aGlue_lt t2 (aGeL_mem hg o o1) z2⟩) o1, γ', σ', e1.tr g1 e2, Nat.le_trans e2 g2, g3, aFr_sub hq.2 f1, gFr_sub hq.2 f2⟩
def aKill : List Nat → List AV → List AV
  | [], A => A
  | k :: r, A => aKill r (A.set k (0, 0, 0))
theorem aKill_ok {scr : SG} {n : Nat} {L' : MLoc} : ∀ {ks : List Nat} {A : List AV}, (∀ i v, A[i]? = some v → v.1 = 0 ∨ aInN i ks = true ∨ ∃ w, mLd L' i = some w ∧ aG scr σ n v w) → aLs scr σ n (aKill ks A) L'
  | [], A, h => by
    intro i v hv
    rcases h i v hv with h0 | h0 | h0
    · exact Or.inl h0
    · cases h0
    · exact Or.inr h0
  | k :: r, A, h => by
    unfold aKill
    refine aKill_ok ?_
    intro i v hv
    rw [List.getElem?_set] at hv
    by_cases e : k = i
    · rw [if_pos e] at hv
      split at hv
      · cases hv; exact Or.inl rfl
      · cases hv
    · rw [if_neg e] at hv
      rcases h i v hv with h0 | h0 | h0
      · exact Or.inl h0
      · unfold aInN at h0
        cases hq : Nat.beq k i with
        | true => exact absurd (Nat.eq_of_beq_eq_true hq) e
        | false => rw [hq] at h0; exact Or.inr (Or.inl h0)
      · exact Or.inr (Or.inr h0)
theorem aKill_ls {scr : SG} {n : Nat} {L L' : MLoc} {ks : List Nat} {A : List AV} (h : aLs scr σ n A L) (hl : ∀ i, aInN i ks = false → mLd L' i = mLd L i) : aLs scr σ n (aKill ks A) L' := by
  refine aKill_ok ?_
  intro i v hv
  cases hk : aInN i ks with
  | true => exact Or.inr (Or.inl rfl)
  | false =>
    rcases h i v hv with h0 | ⟨w, h1, h2⟩
    · exact Or.inl h0
    · exact Or.inr (Or.inr ⟨w, (hl i hk).trans h1, h2⟩)
/-- one piece at its place -/
def aSeg1 (mod : List (Nat × Nat)) (h mi pc : Nat) (S : AS) (c : CG) : Option (Nat × List AS) :=
  bif Nat.beq c.1 mi && Nat.beq c.2.1 pc && Nat.ble c.2.2.2.1 h && aSubM mod c.2.2.2.2.2.2.1 && (Nat.beq c.2.2.2.1 0 || Nat.ble S.2.2.length c.2.2.2.2.1.2.2.length) then (match aPreF c.2.2.2.2.1.1.2.2.2 S.1 with
    | none => none
    | some K1 => match aMatch [(0, 0)] c.2.2.2.2.1 (K1, S.2.1, S.2.2.take c.2.2.2.2.1.2.2.length) with
      | none => none
      | some θ => bif aGeL θ.length c.2.2.2.2.2.1 then some (c.2.2.1, aGlues K1 θ c.2.2.2.2.2.2.1 (aKill c.2.2.2.2.2.2.2 S.2.1) (S.2.2.drop c.2.2.2.2.1.2.2.length) c.2.2.2.2.2.1) else none) else none
def aSeg (mod : List (Nat × Nat)) (h mi pc : Nat) (S : AS) : List CG → Option (Nat × List AS)
  | [] => none
  | c :: C => match aSeg1 mod h mi pc S c with
    | some o => some o
    | none => aSeg mod h mi pc S C
theorem aSeg_mem {mod : List (Nat × Nat)} {h mi pc : Nat} {o : Nat × List AS} : ∀ {C : List CG}, aSeg mod h mi pc S C = some o → ∃ c, c ∈ C ∧ aSeg1 mod h mi pc S c = some o
  | [], e => nomatch e
  | c :: C, e => by
    unfold aSeg at e
    cases hc : aSeg1 mod h mi pc S c with
    | some o =>
      rw [hc] at e
      cases e
      exact ⟨c, List.mem_cons_self, hc⟩
    | none =>
      rw [hc] at e
      obtain ⟨c', c1, c2⟩ := aSeg_mem e
      exact ⟨c', List.mem_cons_of_mem _ c1, c2⟩
theorem aSeg1_ok {s : List Int32} {γ : Nat → Nat → Int32} {mod : List (Nat × Nat)} {hh d mi pc : Nat} {o : Nat × List AS} {c : CG} {Q : Option Value → Mem → Prop} (hc : gSound s c) (hd : hh ≤ d) (h : aHold (s, γ) σ S L st M) (ho : aSeg1 mod hh mi pc S c = some o)
    (k : ∀ q, q ∈ o.2 → ∀ γ' σ' L' st' M', aExt S.1.1.length σ σ' → S.1.1.length ≤ q.1.1.length → aHold (s, γ') σ' q L' st' M' → aFr mod M M' → gFr mod γ γ' → Ok d mi o.1 L' st' M' Q) : Ok d mi pc L st M Q := by
  obtain ⟨K, A, T⟩ := S
  unfold aSeg1 at ho
  dsimp only at ho
  cases hq0 : (Nat.beq c.1 mi && Nat.beq c.2.1 pc && Nat.ble c.2.2.2.1 hh && aSubM mod c.2.2.2.2.2.2.1 && (Nat.beq c.2.2.2.1 0 || Nat.ble T.length c.2.2.2.2.1.2.2.length)) with
  | false => rw [hq0] at ho; cases ho
  | true =>
    rw [hq0] at ho
    dsimp only [cond_true] at ho
    rw [Bool.and_eq_true, Bool.and_eq_true, Bool.and_eq_true, Bool.and_eq_true] at hq0
    have hq := hq0.1
    have hq5 := hq0.2
    have q1 := Nat.eq_of_beq_eq_true hq.1.1.1
    have q2 := Nat.eq_of_beq_eq_true hq.1.1.2
    have q3 : c.2.2.2.1 ≤ hh := Nat.le_of_ble_eq_true hq.1.2
    cases hp : aPreF c.2.2.2.2.1.1.2.2.2 K with
    | none => rw [hp] at ho; cases ho
    | some K1 =>
      rw [hp] at ho
      dsimp only at ho
      obtain ⟨σ1, e1, e2, e3⟩ := aPreF_ok h.2.2.2 h.1 hp
      cases hm : aMatch [(0, 0)] c.2.2.2.2.1 (K1, A, T.take c.2.2.2.2.1.2.2.length) with
      | none => rw [hm] at ho; cases ho
      | some θ =>
        rw [hm] at ho
        dsimp only at ho
        cases hg : aGeL θ.length c.2.2.2.2.2.1 with
        | false => rw [hg] at ho; cases ho
        | true =>
          rw [hg] at ho
          cases ho
          have hs := h.2.2.1
          have hH : aHold (s, γ) σ1 (K1, A, T.take c.2.2.2.2.1.2.2.length) L (st.take c.2.2.2.2.1.2.2.length) M := ⟨e3, aLs_ext e1 e2 h.2.1, aSs_ext e1 e2 (aSs_take _ hs), h.2.2.2⟩
          obtain ⟨t1, t2, t3, t4⟩ := aMatch_ok hH (by
            intro s hs
            have : s = 0 := by
              have : s < 1 := hs
              omega
            subst this
            exact e3.1) hm
          have key := hc γ d (tSig σ1 θ) L (st.take c.2.2.2.2.1.2.2.length) (st.drop c.2.2.2.2.1.2.2.length) M Q ⟨by omega, fun h1 => by
            rw [Bool.or_eq_true] at hq5
            rcases hq5 with e | e
            · have := Nat.eq_of_beq_eq_true e
              omega
            · have := Nat.le_of_ble_eq_true e
              have e2 : T.length = st.length := aSs_len hs
              exact List.drop_eq_nil_of_le (by omega)⟩ t4
          rw [q1, q2, List.take_append_drop] at key
          refine key ?_
          intro γ' σc o L' st' M' o1 hL f1 f2 o2 o3
          rw [← t3] at o2
          obtain ⟨σ', g1, g2, g3⟩ := aGlue_ok (scr := (s, γ)) (scr' := (s, γ')) rfl (mod := c.2.2.2.2.2.2.1) (A := aKill c.2.2.2.2.2.2.2 A) (r := T.drop c.2.2.2.2.1.2.2.length) (L := L') (st := st.drop c.2.2.2.2.1.2.2.length) e3 (aKill_ls (aLs_ext e1 e2 h.2.1) hL) (aSs_ext e1 e2 (aSs_drop _ hs)) t2 o2 o3 (aGeL_mem hg o o1) f1 f2
          exact k _ (aGlues_mem g3.1.2.1 (fun z hz => by
            obtain ⟨z1, z2, _⟩ := o3.1.2.1.2.2 z.1 z.2.1 z.2.2 hz
            exact ⟨aGlue_lt t2 (aGeL_mem hg o o1) z1, aGlue_lt t2 (aGeL_mem hg o o1) z2⟩) o1) γ' σ' L' _ M' (e1.tr g1 e2) (Nat.le_trans e2 g2) g3 (aFr_sub hq.2 f1) (gFr_sub hq.2 f2)
end

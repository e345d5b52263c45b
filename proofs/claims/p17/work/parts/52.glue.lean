/-! after a call: the callee's outcome laid upon the caller's state -/
def tMap (θ : ATh) (v : AV) : AV := bif Nat.beq v.1 1 then (1, (tGet θ v.2.1).1, (tGet θ v.2.1).2 + v.2.2) else bif Nat.ble 5 v.1 then (0, 0, 0) else bif Nat.beq v.1 2 then (2, v.2.1, bif ile v.2.2 0 then 0 else bif ile 0 (tGet θ v.2.2.toNat).2 && ile (tGet θ v.2.2.toNat).2 0 then ((tGet θ v.2.2.toNat).1 : Int) else 0) else v
def tMapZ (θ : ATh) (z : Nat × Nat × Int) : Nat × Nat × Int := ((tGet θ z.1).1, (tGet θ z.2.1).1, z.2.2 - (tGet θ z.1).2 + (tGet θ z.2.1).2)
def tIota : Nat → Nat → ATh
  | _, 0 => []
  | n, k + 1 => (n, 0) :: tIota (n + 1) k
theorem tIota_len : ∀ {k n : Nat}, (tIota n k).length = k
  | 0, _ => rfl
  | k + 1, _ => congrArg (· + 1) tIota_len
theorem tIota_get : ∀ {k n i : Nat}, i < k → (tIota n k)[i]? = some (n + i, 0)
  | 0, _, _, h => absurd h (Nat.not_lt_zero _)
  | k + 1, n, 0, _ => rfl
  | k + 1, n, i + 1, h => by
    show (tIota (n + 1) k)[i]? = _
    rw [tIota_get (by omega), show n + 1 + i = n + (i + 1) by omega]
def aKeep (mod : List (Nat × Nat)) (F : AF) : AF := F.filter (fun q => (Nat.ble 1000 q.1 || (tSin q.1 && Nat.blt (tTag q.1) 64)) && !(memP q.1 q.2.1 mod))
def aGlue (K : AK) (θ : ATh) (mod : List (Nat × Nat)) (A r : List AV) (O : AS) : AS :=
  ((K.1 ++ O.1.1.drop θ.length, O.1.2.1.map (tMapZ (θ ++ tIota K.1.length (O.1.1.length - θ.length))) ++ K.2.1, K.2.2.1, O.1.2.2.2.map (fun q => (q.1, q.2.1, tMap (θ ++ tIota K.1.length (O.1.1.length - θ.length)) q.2.2)) ++ aKeep mod K.2.2.2), A, O.2.2.map (tMap (θ ++ tIota K.1.length (O.1.1.length - θ.length))) ++ r)
def gFr (mod : List (Nat × Nat)) (γ γ' : Nat → Nat → Int32) : Prop := ∀ g i, 1000 ≤ g → memP g i mod = false → γ' g i = γ g i
theorem gFr.rf {mod : List (Nat × Nat)} {γ : Nat → Nat → Int32} : gFr mod γ γ := fun _ _ _ _ => rfl
theorem gFr.tr {mod : List (Nat × Nat)} {a b c : Nat → Nat → Int32} (h1 : gFr mod a b) (h2 : gFr mod b c) : gFr mod a c := fun g i p q => (h2 g i p q).trans (h1 g i p q)
theorem aG_scr {scr scr' : SG} (e : scr'.1 = scr.1) {σ : Nat → Int} {n : Nat} {v : AV} {w : Value} (h : aG scr σ n v w) : aG scr' σ n v w := by
  unfold aG aGk at h ⊢
  rw [e]
  exact h
theorem aSs_scr {scr scr' : SG} (e : scr'.1 = scr.1) {σ : Nat → Int} {n : Nat} : ∀ {A : List AV} {st : List Value}, aSs scr σ n A st → aSs scr' σ n A st
  | [], [], _ => True.intro
  | [], _ :: _, h => h.elim
  | _ :: _, [], h => h.elim
  | _ :: _, _ :: _, h => ⟨aG_scr e h.1, aSs_scr e h.2⟩
theorem aLs_scr {scr scr' : SG} (e : scr'.1 = scr.1) {σ : Nat → Int} {n : Nat} {A : List AV} {L : MLoc} (h : aLs scr σ n A L) : aLs scr' σ n A L := by
  intro i v hv
  rcases h i v hv with h0 | ⟨w, h1, h2⟩
  · exact Or.inl h0
  · exact Or.inr ⟨w, h1, aG_scr e h2⟩
section
variable {scr : SG}
theorem tMap_ok {σ σ' : Nat → Int} {n m : Nat} {θ : ATh} (hm : ∀ s, s < n → (tGet θ s).1 < m ∧ σ' (tGet θ s).1 + (tGet θ s).2 = σ s) {v : AV} {w : Value} (h : aG scr σ n v w) : aG scr σ' m (tMap θ v) w := by
  unfold tMap
  cases h1 : Nat.beq v.1 1 with
  | true =>
    obtain ⟨x, e, x1, x2⟩ := aG_int h h1
    have := hm _ x1
    exact ⟨this.1, x, e, by show x.toInt = σ' (tGet θ v.2.1).1 + ((tGet θ v.2.1).2 + v.2.2); omega⟩
  | false =>
    cases h5 : Nat.ble 5 v.1 with
    | true => exact True.intro
    | false =>
      obtain ⟨k, s, c⟩ := v
      unfold aG aGk at h ⊢
      dsimp only [cond_false] at h h1 h5 ⊢
      match k, h, h1, h5 with
      | 0, _, _, _ => exact True.intro
      | 1, _, h1, _ => cases h1
      | 2, ⟨a, h1, h2, h3, h4, h5⟩, _, _ =>
        refine ⟨a, h1, h2, h3, h4, ?_⟩
        cases hz : ile c 0 with
        | true => exact fun hc => absurd hc (Int.lt_irrefl 0)
        | false =>
          have y1 : 0 < c := by
            cases Int.lt_or_le 0 c with
            | inl h => exact h
            | inr h => rw [ile_iff.mpr h] at hz; cases hz
          cases hy : (ile 0 (tGet θ c.toNat).2 && ile (tGet θ c.toNat).2 0) with
          | false => exact fun hc => absurd (show (0 : Int) < 0 from hc) (Int.lt_irrefl 0)
          | true =>
            rw [Bool.and_eq_true, ile_iff, ile_iff] at hy
            obtain ⟨h6, h7⟩ := h5 y1
            have h8 := hm _ h6
            have h7 : (a : Int) = s + σ c.toNat := h7
            show 0 < ((tGet θ c.toNat).1 : Int) → ((tGet θ c.toNat).1 : Int).toNat < m ∧ (a : Int) = s + σ' ((tGet θ c.toNat).1 : Int).toNat
            intro _
            rw [Int.toNat_natCast]
            exact ⟨h8.1, by omega⟩
      | 3, h, _, _ => exact h
      | 4, h, _, _ => exact h
      | k + 5, _, _, h5 => exact absurd (Nat.ble_eq_true_of_le (show 5 ≤ k + 5 by omega)) (by rw [h5]; decide)
theorem tMap_ss {σ σ' : Nat → Int} {n m : Nat} {θ : ATh} (hm : ∀ s, s < n → (tGet θ s).1 < m ∧ σ' (tGet θ s).1 + (tGet θ s).2 = σ s) : ∀ {A : List AV} {st : List Value}, aSs scr σ n A st → aSs scr σ' m (A.map (tMap θ)) st
  | [], [], _ => True.intro
  | [], _ :: _, h => h.elim
  | _ :: _, [], h => h.elim
  | _ :: _, _ :: _, h => ⟨tMap_ok hm h.1, tMap_ss hm h.2⟩
theorem aGlue_ok {scr' : SG} (hs1 : scr'.1 = scr.1) {σ σc : Nat → Int} {K : AK} {M M' : Mem} {θ : ATh} {mod : List (Nat × Nat)} {A r : List AV} {O : AS} {L Lc : MLoc} {st rs : List Value} (hk : aK scr σ K M) (hl : aLs scr σ K.1.length A L) (hs : aSs scr σ K.1.length r st) (ht : tOk K.1.length θ) (hx : aExt θ.length (tSig σ θ) σc) (hO : aHold scr' σc O Lc rs M') (hp : θ.length ≤ O.1.1.length) (hf : aFr mod M M') (hgf : gFr mod scr.2 scr'.2) : ∃ σ', aExt K.1.length σ σ' ∧ K.1.length ≤ (aGlue K θ mod A r O).1.1.length ∧ aHold scr' σ' (aGlue K θ mod A r O) L (rs ++ st) M' := by
  obtain ⟨hp0, hn, hns, hfs⟩ := hk
  have e0 : ∃ σ' : Nat → Int, σ' = fun i => if i < K.1.length then σ i else σc (θ.length + (i - K.1.length)) := ⟨_, rfl⟩
  obtain ⟨σ', es⟩ := e0
  have s1 : ∀ i, i < K.1.length → σ' i = σ i := fun i hi => by rw [es]; exact if_pos hi
  have s2 : ∀ j, σ' (K.1.length + j) = σc (θ.length + j) := fun j => by
    rw [es]
    dsimp only
    rw [if_neg (by omega), show K.1.length + j - K.1.length = j by omega]
  have hE : aExt K.1.length σ σ' := s1
  have hlen : (aGlue K θ mod A r O).1.1.length = K.1.length + (O.1.1.length - θ.length) := by
    show (K.1 ++ O.1.1.drop θ.length).length = _
    rw [List.length_append, List.length_drop]
  have hle : K.1.length ≤ (aGlue K θ mod A r O).1.1.length := by omega
  have hm : ∀ s, s < O.1.1.length → (tGet (θ ++ tIota K.1.length (O.1.1.length - θ.length)) s).1 < (aGlue K θ mod A r O).1.1.length ∧ σ' (tGet (θ ++ tIota K.1.length (O.1.1.length - θ.length)) s).1 + (tGet (θ ++ tIota K.1.length (O.1.1.length - θ.length)) s).2 = σc s := by
    intro s hs
    cases Nat.lt_or_ge s θ.length with
    | inl h =>
      have e : tGet (θ ++ tIota K.1.length (O.1.1.length - θ.length)) s = tGet θ s := by
        unfold tGet
        rw [List.getD_eq_getElem?_getD, List.getD_eq_getElem?_getD, List.getElem?_append_left h]
      rw [e]
      have h1 := ht s h
      refine ⟨by omega, ?_⟩
      rw [s1 _ h1]
      exact (hx s h).symm
    | inr h =>
      have e : tGet (θ ++ tIota K.1.length (O.1.1.length - θ.length)) s = (K.1.length + (s - θ.length), 0) := by
        unfold tGet
        rw [List.getD_eq_getElem?_getD, List.getElem?_append_right h, tIota_get (by omega)]
        rfl
      rw [e]
      refine ⟨by show K.1.length + (s - θ.length) < _; omega, ?_⟩
      show σ' (K.1.length + (s - θ.length)) + 0 = σc s
      rw [s2, show θ.length + (s - θ.length) = s by omega]
      omega
  obtain ⟨n0, n1, n2⟩ := aNum_ext hE hp0 hn
  refine ⟨σ', hE, hle, ⟨by omega, ⟨n0, ?_, ?_⟩, ?_, ?_⟩, ?_, ?_, hO.2.2.2⟩
  · intro i lo hi hb
    have hb : (K.1 ++ O.1.1.drop θ.length)[i]? = some (lo, hi) := hb
    cases Nat.lt_or_ge i K.1.length with
    | inl h => rw [List.getElem?_append_left h] at hb; exact n1 i _ _ hb
    | inr h =>
      rw [List.getElem?_append_right h, List.getElem?_drop] at hb
      have := hO.1.2.1.2.1 _ _ _ hb
      rw [show i = K.1.length + (i - K.1.length) by omega, s2]
      exact this
  · intro a b c hm'
    have hm' : (a, b, c) ∈ O.1.2.1.map (tMapZ (θ ++ tIota K.1.length (O.1.1.length - θ.length))) ++ K.2.1 := hm'
    cases List.mem_append.mp hm' with
    | inl h =>
      obtain ⟨q, q1, q2⟩ := List.mem_map.mp h
      obtain ⟨a', b', c'⟩ := q
      obtain ⟨z1, z2, z3⟩ := hO.1.2.1.2.2 _ _ _ q1
      have ma := hm a' z1
      have mb := hm b' z2
      unfold tMapZ at q2
      dsimp only at q2
      cases q2
      exact ⟨ma.1, mb.1, by omega⟩
    | inr h =>
      obtain ⟨h1, h2, h3⟩ := n2 a b c h
      exact ⟨by omega, by omega, h3⟩
  · exact aNs_ext hE hle hns
  · intro g i v hv
    have hv : (g, i, v) ∈ O.1.2.2.2.map (fun q => (q.1, q.2.1, tMap (θ ++ tIota K.1.length (O.1.1.length - θ.length)) q.2.2)) ++ aKeep mod K.2.2.2 := hv
    cases List.mem_append.mp hv with
    | inl h =>
      obtain ⟨q, q1, q2⟩ := List.mem_map.mp h
      obtain ⟨g', i', v'⟩ := q
      cases q2
      refine ⟨fun a a1 a2 a3 => ?_, fun hg => tMap_ok hm ((hO.1.2.2.2 _ _ _ q1).2 hg)⟩
      obtain ⟨w, w1, w2⟩ := (hO.1.2.2.2 _ _ _ q1).1 a a1 a2 a3
      exact ⟨w, w1, tMap_ok hm w2⟩
    | inr h =>
      unfold aKeep at h
      obtain ⟨h1, h2⟩ := List.mem_filter.mp h
      rw [Bool.and_eq_true, Bool.or_eq_true] at h2
      have hq : memP g i mod = false := by
        cases hq : memP g i mod with
        | false => rfl
        | true =>
          have h3 := h2.2
          rw [hq] at h3; cases h3
      refine ⟨fun a a1 a2 a3 => ?_, fun hg => ?_⟩
      · obtain ⟨w, w1, w2⟩ := (hfs _ _ _ h1).1 a a1 a2 a3
        refine ⟨w, ?_, aG_scr hs1 (aG_ext hE hle w2)⟩
        rcases h2.1 with h4 | h4
        · have := Nat.le_of_ble_eq_true h4
          have := tGrp_lt a2
          dsimp only at *
          omega
        · rw [Bool.and_eq_true] at h4
          rw [hf.2.2.1 a i a1 a2 (by rw [a3]; exact h4.1) (by rw [a3]; exact Nat.le_of_ble_eq_true h4.2) (by rw [a3]; exact hq)]
          exact w1
      · have := aG_scr hs1 (aG_ext hE hle ((hfs _ _ _ h1).2 hg))
        rw [← hgf g i hg hq] at this
        exact this
  · exact aLs_scr hs1 (aLs_ext hE hle hl)
  · exact aSs_app (tMap_ss hm hO.2.2.1) (aSs_scr hs1 (aSs_ext hE hle hs))
end

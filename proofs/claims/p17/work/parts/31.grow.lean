/-! symbols are only added -/
def aExt (n : Nat) (σ σ' : Nat → Int) : Prop := ∀ i, i < n → σ' i = σ i
theorem aExt.rf {n : Nat} {σ : Nat → Int} : aExt n σ σ := fun _ _ => rfl
theorem aExt.tr {n m : Nat} {σ σ' σ'' : Nat → Int} (h1 : aExt n σ σ') (h2 : aExt m σ' σ'') (h : n ≤ m) : aExt n σ σ'' := fun i hi => (h2 i (Nat.lt_of_lt_of_le hi h)).trans (h1 i hi)
theorem aG_ext {scr : SG} {σ σ' : Nat → Int} {n m : Nat} {v : AV} {w : Value} (he : aExt n σ σ') (hn : n ≤ m) (h : aG scr σ n v w) : aG scr σ' m v w := by
  obtain ⟨k, s, c⟩ := v
  unfold aG aGk at h ⊢
  dsimp only at h ⊢
  match k, h with
  | 0, _ => exact True.intro
  | 1, ⟨h1, x, h2, h3⟩ => exact ⟨by omega, x, h2, by rw [he s h1]; exact h3⟩
  | 2, ⟨a, h1, h2, h3, h4, h5⟩ => exact ⟨a, h1, h2, h3, h4, fun hc => ⟨by have := (h5 hc).1; omega, by rw [he _ (h5 hc).1]; exact (h5 hc).2⟩⟩
  | 3, h => exact h
  | 4, h => exact h
  | k + 5, ⟨h1, h2, h3⟩ => exact ⟨by omega, h2, by rw [he s h1]; exact h3⟩
theorem aSs_ext {scr : SG} {σ σ' : Nat → Int} {n m : Nat} (he : aExt n σ σ') (hn : n ≤ m) : ∀ {A : List AV} {st : List Value}, aSs scr σ n A st → aSs scr σ' m A st
  | [], [], _ => True.intro
  | _ :: _, _ :: _, h => ⟨aG_ext he hn h.1, aSs_ext he hn h.2⟩
theorem aLs_ext {scr : SG} {σ σ' : Nat → Int} {n m : Nat} (he : aExt n σ σ') (hn : n ≤ m) {A : List AV} {L : MLoc} (h : aLs scr σ n A L) : aLs scr σ' m A L := by
  intro i v hv
  rcases h i v hv with h0 | ⟨w, h1, h2⟩
  · exact Or.inl h0
  · exact Or.inr ⟨w, h1, aG_ext he hn h2⟩
theorem aFs_ext {scr : SG} {σ σ' : Nat → Int} {n m : Nat} (he : aExt n σ σ') (hn : n ≤ m) {F : AF} {M : Mem} (h : aFs scr σ n F M) : aFs scr σ' m F M := by
  intro g i v hv
  refine ⟨fun a h1 h2 h3 => ?_, fun hg => aG_ext he hn ((h g i v hv).2 hg)⟩
  obtain ⟨w, h4, h5⟩ := (h g i v hv).1 a h1 h2 h3
  exact ⟨w, h4, aG_ext he hn h5⟩
theorem aNs_ext {σ σ' : Nat → Int} {n m : Nat} (he : aExt n σ σ') (hn : n ≤ m) {N : AZ} (h : aNs σ n N) : aNs σ' m N := by
  intro a b c hm
  obtain ⟨h1, h2, h3⟩ := h a b c hm
  exact ⟨by omega, by omega, by rw [he a h1, he b h2]; exact h3⟩
/-- what is known: bounds, differences, what differs, fields -/
abbrev AK : Type := AB × AZ × AZ × AF
def aK (scr : SG) (σ : Nat → Int) (K : AK) (M : Mem) : Prop := 0 < K.1.length ∧ aNum σ K.1 K.2.1 ∧ aNs σ K.1.length K.2.2.1 ∧ aFs scr σ K.1.length K.2.2.2 M
/-- a new symbol of these bounds -/
def aNew (K : AK) (lo hi : Int) : AK := (K.1 ++ [(lo, hi)], K.2)
def aUp (σ : Nat → Int) (n : Nat) (x : Int) : Nat → Int := fun i => if i = n then x else σ i
theorem aUp_ext {σ : Nat → Int} {n : Nat} {x : Int} : aExt n σ (aUp σ n x) := fun i hi => if_neg (by omega)
theorem aNum_ext {σ σ' : Nat → Int} {B : AB} {Z : AZ} (he : aExt B.length σ σ') (hp : 0 < B.length) (h : aNum σ B Z) : aNum σ' B Z := by
  refine ⟨by rw [he 0 hp]; exact h.1, ?_, ?_⟩
  · intro i lo hi hb
    have hl : i < B.length := by
      cases Nat.lt_or_ge i B.length with
      | inl h => exact h
      | inr h => rw [List.getElem?_eq_none h] at hb; cases hb
    rw [he i hl]; exact h.2.1 i lo hi hb
  · intro a b c hm
    obtain ⟨h1, h2, h3⟩ := h.2.2 a b c hm
    exact ⟨h1, h2, by rw [he a h1, he b h2]; exact h3⟩
theorem aNew_ok {scr : SG} {σ : Nat → Int} {K : AK} {M : Mem} {lo hi x : Int} (h : aK scr σ K M) (h1 : lo ≤ x) (h2 : x ≤ hi) : aK scr (aUp σ K.1.length x) (aNew K lo hi) M := by
  obtain ⟨hp, hn, hs, hf⟩ := h
  have he : aExt K.1.length σ (aUp σ K.1.length x) := aUp_ext
  have hl : (aNew K lo hi).1.length = K.1.length + 1 := by
    show (K.1 ++ [(lo, hi)]).length = _
    rw [List.length_append]; rfl
  obtain ⟨n0, n1, n2⟩ := aNum_ext he hp hn
  refine ⟨by omega, ⟨n0, ?_, ?_⟩, ?_, ?_⟩
  · intro i lo' hi' hb
    have hb : (K.1 ++ [(lo, hi)])[i]? = some (lo', hi') := hb
    cases Nat.lt_or_ge i K.1.length with
    | inl hi => rw [List.getElem?_append_left hi] at hb; exact n1 i _ _ hb
    | inr hi =>
      rw [List.getElem?_append_right hi] at hb
      cases hj : i - K.1.length with
      | zero =>
        rw [hj] at hb
        have e : i = K.1.length := by omega
        cases hb
        have : aUp σ K.1.length x i = x := if_pos e
        omega
      | succ j => rw [hj] at hb; cases hb
  · intro a b c hm
    obtain ⟨h1, h2, h3⟩ := n2 a b c hm
    exact ⟨by omega, by omega, h3⟩
  · rw [hl]; exact aNs_ext he (by omega) hs
  · rw [hl]; exact aFs_ext he (by omega) hf
/-- suppose sigma a - sigma b is at most c; none: it can't be -/
def aSup (K : AK) (a b : Nat) (c : Int) : Option AK :=
  bif Nat.beq a b then (bif ile 0 c then some K else none)
  else bif entZ1 b a (-c - 1) K.2.1 || entZ2 K.2.1 b a (-c - 1) K.2.1 then none
  else
    let ha := imin (ub0 K.1 a) (aub K.1 b K.2.1 + c)
    let lb := imax (lb0 K.1 b) (alb K.1 a K.2.1 - c)
    bif ile (lb0 K.1 a) ha && ile lb (ub0 K.1 b) then
      some ((bif Nat.beq a 0 then K.1.set b (lb, ub0 K.1 b) else bif Nat.beq b 0 then K.1.set a (lb0 K.1 a, ha) else (K.1.set a (lb0 K.1 a, ha)).set b (lb, ub0 K.1 b)), (bif Nat.beq a 0 || Nat.beq b 0 then K.2.1 else (a, b, c) :: K.2.1), K.2.2)
    else none
theorem set_bnd {σ : Nat → Int} {B : AB} {s : Nat} {lo hi : Int} (h : ∀ i lo hi, B[i]? = some (lo, hi) → lo ≤ σ i ∧ σ i ≤ hi) (h1 : lo ≤ σ s) (h2 : σ s ≤ hi) : ∀ i lo' hi', (B.set s (lo, hi))[i]? = some (lo', hi') → lo' ≤ σ i ∧ σ i ≤ hi' := by
  intro i lo' hi' hb
  rw [List.getElem?_set] at hb
  by_cases e : s = i
  · rw [if_pos e] at hb
    split at hb
    · cases hb; subst e; exact ⟨h1, h2⟩
    · cases hb
  · rw [if_neg e] at hb; exact h i _ _ hb
theorem aSup_ok {scr : SG} {σ : Nat → Int} {K : AK} {M : Mem} (h : aK scr σ K M) {a b : Nat} (ha : a < K.1.length) (hb : b < K.1.length) {c : Int} (hc : σ a - σ b ≤ c) : ∃ K', aSup K a b c = some K' ∧ aK scr σ K' M ∧ K'.1.length = K.1.length := by
  obtain ⟨hp, hn, hs, hf⟩ := h
  have hz : ∀ a b c, (a, b, c) ∈ K.2.1 → σ a - σ b ≤ c := fun a b c hm => (hn.2.2 a b c hm).2.2
  unfold aSup
  cases h1 : Nat.beq a b with
  | true =>
    have e := Nat.eq_of_beq_eq_true h1
    subst e
    have : ile 0 c = true := ile_iff.mpr (by omega)
    rw [this]
    exact ⟨K, rfl, ⟨hp, hn, hs, hf⟩, rfl⟩
  | false =>
    cases h2 : (entZ1 b a (-c - 1) K.2.1 || entZ2 K.2.1 b a (-c - 1) K.2.1) with
    | true =>
      rw [Bool.or_eq_true] at h2
      rcases h2 with h2 | h2
      · have := entZ1_ok K.2.1 hz h2
        omega
      · have := entZ2_ok hz K.2.1 hz h2
        omega
    | false =>
      have ua := ub0_ok hn.2.1 ha
      have ub := ub0_ok hn.2.1 hb
      have u1 := aub_ok hn.2.1 hb K.2.1 hn.2.2
      have u2 := alb_ok hn.2.1 ha K.2.1 hn.2.2
      have m1 : σ a ≤ imin (ub0 K.1 a) (aub K.1 b K.2.1 + c) := imin_le ua.2 (by omega)
      have m2 : imax (lb0 K.1 b) (alb K.1 a K.2.1 - c) ≤ σ b := imax_le ub.1 (by omega)
      have t1 : ile (lb0 K.1 a) (imin (ub0 K.1 a) (aub K.1 b K.2.1 + c)) = true := ile_iff.mpr (by omega)
      have t2 : ile (imax (lb0 K.1 b) (alb K.1 a K.2.1 - c)) (ub0 K.1 b) = true := ile_iff.mpr (by omega)
      have key : ∀ (B' : AB) (Z' : AZ), B'.length = K.1.length → (∀ i lo hi, B'[i]? = some (lo, hi) → lo ≤ σ i ∧ σ i ≤ hi) → (∀ x y d, (x, y, d) ∈ Z' → (x, y, d) ∈ K.2.1 ∨ (x, y, d) = (a, b, c)) → aK scr σ (B', Z', K.2.2) M := by
        intro B' Z' hl hB hZ
        refine ⟨by show 0 < B'.length; omega, ⟨hn.1, hB, ?_⟩, ?_, ?_⟩
        · intro x y d hm
          show x < B'.length ∧ y < B'.length ∧ _
          rw [hl]
          rcases hZ x y d hm with h | h
          · exact hn.2.2 x y d h
          · cases h; exact ⟨ha, hb, hc⟩
        · show aNs σ B'.length K.2.2.1
          rw [hl]; exact hs
        · show aFs scr σ B'.length K.2.2.2 M
          rw [hl]; exact hf
      dsimp only
      rw [t1, t2]
      cases h3 : Nat.beq a 0 with
      | true =>
        exact ⟨_, rfl, key _ _ List.length_set (set_bnd hn.2.1 m2 ub.2) (fun x y d hm => Or.inl hm), List.length_set⟩
      | false =>
        cases h4 : Nat.beq b 0 with
        | true => exact ⟨_, rfl, key _ _ List.length_set (set_bnd hn.2.1 ua.1 m1) (fun x y d hm => Or.inl hm), List.length_set⟩
        | false =>
          refine ⟨_, rfl, key _ _ (by show (List.set (List.set K.1 a _) b _).length = _; rw [List.length_set, List.length_set]) (set_bnd (set_bnd hn.2.1 ua.1 m1) m2 ub.2) (fun x y d hm => ?_), (by show (List.set (List.set K.1 a _) b _).length = _; rw [List.length_set, List.length_set])⟩
          have hm : (x, y, d) ∈ (a, b, c) :: K.2.1 := hm
          cases List.mem_cons.mp hm with
          | inl h => exact Or.inr h
          | inr h => exact Or.inl h

/-! pieces that know nothing of what is alike: they leave it as it is -/
def aMem0 (scr : SG) (M : Mem) : Prop := (M[0]? = some (64, scr.1.map .int) ∧ x8 scr) ∧ M[1]? = some (63, []) ∧ (∀ c, 2 ≤ c → c < tEnd → ∃ fs, M[c]? = some (tTag (tGrp c), fs) ∧ fs.length = tSiz (tGrp c) ∧ ∀ i w, fs[i]? = some w → aTy (tTy (tGrp c) i) w) ∧ tXI scr.2 M
def aMem9 (scr : SG) (M : Mem) : Prop := (M[0]? = some (64, scr.1.map .int) ∧ x8 scr ∧ x9 scr.2 M) ∧ M[1]? = some (63, []) ∧ (∀ c, 2 ≤ c → c < tEnd → ∃ fs, M[c]? = some (tTag (tGrp c), fs) ∧ fs.length = tSiz (tGrp c) ∧ ∀ i w, fs[i]? = some w → aTy (tTy (tGrp c) i) w) ∧ tXI scr.2 M
def aHold9 (scr : SG) (σ : Nat → Int) (S : AS) (L : MLoc) (st : List Value) (M : Mem) : Prop := aK scr σ S.1 M ∧ aLs scr σ S.1.1.length S.2.1 L ∧ aSs scr σ S.1.1.length S.2.2 st ∧ aMem9 scr M
def cSound9 (s : List Int32) (c : CT) : Prop := ∀ γ d σ L M, c.2.2.1 ≤ d → aHold9 (s, γ) σ c.2.2.2.1 L [] M → Ok d c.1 c.2.1 L [] M (fun r M' => aFr c.2.2.2.2.2 M M' ∧ ∃ γ', gFr c.2.2.2.2.2 γ γ' ∧ ∃ o, o ∈ c.2.2.2.2.1 ∧ ∃ σ', aExt c.2.2.2.1.1.1.length σ σ' ∧ aHold9 (s, γ') σ' o [] r.toList M')
def gSound9 (s : List Int32) (c : CG) : Prop := ∀ γ d σ L st0 st M Q, (c.2.2.2.1 ≤ d ∧ (1 ≤ c.2.2.2.1 → st = [])) → aHold9 (s, γ) σ c.2.2.2.2.1 L st0 M → (∀ γ' σ' o L' st' M', o ∈ c.2.2.2.2.2.1 → (∀ i, aInN i c.2.2.2.2.2.2.2 = false → mLd L' i = mLd L i) → aFr c.2.2.2.2.2.2.1 M M' → gFr c.2.2.2.2.2.2.1 γ γ' → aExt c.2.2.2.2.1.1.1.length σ σ' → aHold9 (s, γ') σ' o [] st' M' → Ok d c.1 c.2.2.1 L' (st' ++ st) M' Q) → Ok d c.1 c.2.1 L (st0 ++ st) M Q
theorem aMem_0 {scr : SG} {M : Mem} (h : aMem9 scr M) : aMem0 scr M := ⟨⟨h.1.1, h.1.2.1⟩, h.2⟩
theorem aMem_9 {scr : SG} {M : Mem} (h : aMem0 scr M) (hx : x9 scr.2 M) : aMem9 scr M := ⟨⟨h.1.1, h.1.2, hx⟩, h.2⟩
def aHold0 (scr : SG) (σ : Nat → Int) (S : AS) (L : MLoc) (st : List Value) (M : Mem) : Prop := aK scr σ S.1 M ∧ aLs scr σ S.1.1.length S.2.1 L ∧ aSs scr σ S.1.1.length S.2.2 st ∧ aMem0 scr M
def cSound0 (s : List Int32) (c : CT) : Prop := ∀ γ d σ L M, c.2.2.1 ≤ d → aHold0 (s, γ) σ c.2.2.2.1 L [] M → Ok d c.1 c.2.1 L [] M (fun r M' => aFr c.2.2.2.2.2 M M' ∧ ∃ γ', gFr c.2.2.2.2.2 γ γ' ∧ ∃ o, o ∈ c.2.2.2.2.1 ∧ ∃ σ', aExt c.2.2.2.1.1.1.length σ σ' ∧ aHold0 (s, γ') σ' o [] r.toList M')
def gSound0 (s : List Int32) (c : CG) : Prop := ∀ γ d σ L st0 st M Q, (c.2.2.2.1 ≤ d ∧ (1 ≤ c.2.2.2.1 → st = [])) → aHold0 (s, γ) σ c.2.2.2.2.1 L st0 M → (∀ γ' σ' o L' st' M', o ∈ c.2.2.2.2.2.1 → (∀ i, aInN i c.2.2.2.2.2.2.2 = false → mLd L' i = mLd L i) → aFr c.2.2.2.2.2.2.1 M M' → gFr c.2.2.2.2.2.2.1 γ γ' → aExt c.2.2.2.2.1.1.1.length σ σ' → aHold0 (s, γ') σ' o [] st' M' → Ok d c.1 c.2.2.1 L' (st' ++ st) M' Q) → Ok d c.1 c.2.1 L (st0 ++ st) M Q
def x9ok : List (Nat × Nat) → Bool
  | [] => true
  | q :: r => bif tPro9 q.1 q.2 || Nat.ble 1030 q.1 then false else x9ok r
theorem x9ok_m : ∀ {m : List (Nat × Nat)} {g i : Nat}, x9ok m = true → (tPro9 g i || Nat.ble 1030 g) = true → memP g i m = false
  | [], _, _, _, _ => rfl
  | (x, y) :: r, g, i, h, hq => by
    unfold x9ok at h
    unfold memP
    cases hx : (Nat.beq x g && Nat.beq y i) with
    | true =>
      rw [Bool.and_eq_true] at hx
      have e1 := Nat.eq_of_beq_eq_true hx.1
      have e2 := Nat.eq_of_beq_eq_true hx.2
      subst e1; subst e2
      dsimp only at h
      rw [hq] at h
      cases h
    | false =>
      cases hp : (tPro9 x y || Nat.ble 1030 x) with
      | true =>
        dsimp only at h
        rw [hp] at h
        cases h
      | false =>
        dsimp only at h
        rw [hp] at h
        exact x9ok_m h hq
theorem rA_r : ∀ f, f < 10 → 2 ≤ rA f ∧ rA f < 242 := by decide
theorem kA_r : ∀ f, f < 10 → 2 ≤ kA f ∧ kA f < 242 := by decide
theorem yPro9 {t f d : Nat} (h : yOk t f d = true) : tPro9 (tGrp (yC t f d)) (aSlK (yC t f d) (ySl t f d)) = true ∧ 2 ≤ yC t f d ∧ yC t f d < tEnd := by
  obtain ⟨hf, hd, ht, h4, h8⟩ := yOk_fd h
  match t, ht, h4, h8 with
  | 0, _, _, _ =>
    refine ⟨?_, by show 2 ≤ 10 + d; omega, by show 10 + d < 242; omega⟩
    show tPro9 (tGrp (10 + d)) (aSlK (10 + d) f) = true
    rw [grp10 d hd]; rfl
  | 1, _, _, _ =>
    have e : f = 0 ∨ f = 1 ∨ f = 2 ∨ f = 3 ∨ f = 4 ∨ f = 5 ∨ f = 6 ∨ f = 7 ∨ f = 8 ∨ f = 9 := by omega
    refine ⟨?_, (rA_r f hf).1, (rA_r f hf).2⟩
    rcases e with rfl | rfl | rfl | rfl | rfl | rfl | rfl | rfl | rfl | rfl <;> rfl
  | 2, _, _, _ =>
    refine ⟨?_, by show 2 ≤ 53 + d; omega, by show 53 + d < 242; omega⟩
    show tPro9 (tGrp (53 + d)) (aSlK (53 + d) f) = true
    rw [grp53 d hd]; rfl
  | 3, _, _, _ =>
    have e : f = 0 ∨ f = 1 ∨ f = 2 ∨ f = 3 ∨ f = 4 ∨ f = 5 ∨ f = 6 ∨ f = 7 ∨ f = 8 ∨ f = 9 := by omega
    refine ⟨?_, (kA_r f hf).1, (kA_r f hf).2⟩
    rcases e with rfl | rfl | rfl | rfl | rfl | rfl | rfl | rfl | rfl | rfl <;> rfl
  | 4, _, _, _ => exact ⟨rfl, by show 2 ≤ 222; decide, by show 222 < 242; decide⟩
  | 5, _, _, _ => exact ⟨rfl, by show 2 ≤ 180; decide, by show 180 < 242; decide⟩
  | 6, _, _, _ => exact ⟨rfl, by show 2 ≤ 4; decide, by show 4 < 242; decide⟩
  | 7, _, _, _ => exact ⟨rfl, by show 2 ≤ 182; decide, by show 182 < 242; decide⟩
  | 8, _, _, _ => exact ⟨rfl, by show 2 ≤ 2; decide, by show 2 < 242; decide⟩
  | 9, _, _, _ => exact ⟨rfl, by show 2 ≤ 181; decide, by show 181 < 242; decide⟩
theorem yT_fr {mod : List (Nat × Nat)} {M M' : Mem} (hf : aFr mod M M') (hm : memP 8 0 mod = false) (hm2 : memP 51 0 mod = false) (h : yT M) : yT M' := by
  intro d hd
  have a := h d hd
  rw [hf.2.2.2 8 d (by decide) (by decide) rfl hm, hf.2.2.2 51 d (by decide) (by decide) rfl hm2]
  exact a
theorem x9_fr {mod : List (Nat × Nat)} {γ γ' : Gh} {M M' : Mem} (hf : aFr mod M M') (hg : gFr mod γ γ') (ok : x9ok mod = true) (hx : x9 γ M) : x9 γ' M' := by
  have eV : yV M' = yV M := yV_same (fun t f d hq => hf.2.2.2 _ _ (yPro9 hq).2.1 (yPro9 hq).2.2 (yPro hq) (x9ok_m ok (by rw [(yPro9 hq).1]; rfl)))
  have eG : gS γ' = gS γ := by
    funext g i
    exact hg (g + 1030) i (by omega) (x9ok_m ok (by rw [Nat.ble_eq_true_of_le (show 1030 ≤ g + 1030 by omega), Bool.or_true]))
  refine ⟨yT_fr hf (x9ok_m ok rfl) (x9ok_m ok rfl) hx.1, ?_⟩
  rw [eV, eG]
  exact hx.2
theorem gLift {s : List Int32} {g : CG} (ok : x9ok g.2.2.2.2.2.2.1 = true) (h : gSound0 s g) : gSound9 s g := by
  intro γ d σ L st0 st M Q hd hH k
  refine h γ d σ L st0 st M Q hd ⟨hH.1, hH.2.1, hH.2.2.1, aMem_0 hH.2.2.2⟩ ?_
  intro γ' σ' o L' st' M' ho hl hf hg hx hH'
  exact k γ' σ' o L' st' M' ho hl hf hg hx ⟨hH'.1, hH'.2.1, hH'.2.2.1, aMem_9 hH'.2.2.2 (x9_fr hf hg ok hH.2.2.2.1.2.2)⟩
theorem cLift {s : List Int32} {c : CT} (ok : x9ok c.2.2.2.2.2 = true) (h : cSound0 s c) : cSound9 s c := by
  intro γ d σ L M hd hH
  refine (h γ d σ L M hd ⟨hH.1, hH.2.1, hH.2.2.1, aMem_0 hH.2.2.2⟩).mono ?_
  intro r M' hq
  obtain ⟨hf, γ', hg, o, ho, σ', hx, hH'⟩ := hq
  exact ⟨hf, γ', hg, o, ho, σ', hx, hH'.1, hH'.2.1, hH'.2.2.1, aMem_9 hH'.2.2.2 (x9_fr hf hg ok hH.2.2.2.1.2.2)⟩

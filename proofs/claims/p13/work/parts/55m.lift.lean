/-! pieces that know nothing of strips: they leave them as they are -/
theorem aMem_to9 {scr : SG} {M : Mem} (h : aMem scr M) : aMem9 scr M := ⟨⟨h.1.1, h.1.2.1, h.1.2.2.1⟩, h.2⟩
theorem aMem_of9 {scr : SG} {M : Mem} (h : aMem9 scr M) (x : x10 scr.2 M) : aMem scr M := ⟨⟨h.1.1, h.1.2.1, h.1.2.2, x⟩, h.2⟩
theorem aMem_x10 {scr : SG} {M : Mem} (h : aMem scr M) : x10 scr.2 M := h.1.2.2.2
def x10ok : List (Nat × Nat) → Bool
  | [] => true
  | q :: r => bif q10 q.1 then false else x10ok r
theorem x10ok_m : ∀ {m : List (Nat × Nat)} {g i : Nat}, x10ok m = true → q10 g = true → memP g i m = false
  | [], _, _, _, _ => rfl
  | (x, y) :: r, g, i, h, hq => by
    unfold x10ok at h
    unfold memP
    cases hp : q10 x with
    | true =>
      dsimp only at h
      rw [hp] at h
      cases h
    | false =>
      dsimp only at h
      rw [hp] at h
      cases hx : (Nat.beq x g && Nat.beq y i) with
      | true =>
        rw [Bool.and_eq_true] at hx
        have e1 := Nat.eq_of_beq_eq_true hx.1
        subst e1
        rw [hq] at hp
        cases hp
      | false => exact x10ok_m h hq
theorem x10_fr {mod : List (Nat × Nat)} {γ γ' : Gh} {M M' : Mem} (hf : aFr mod M M') (hg : gFr mod γ γ') (ok : x10ok mod = true) (hx : x10 γ M) : x10 γ' M' :=
  ⟨⟨fun e he => (hf.2.2.2 8 e (by decide) (by decide) rfl (x10ok_m ok rfl)).trans (hx.1.1 e he), fun k hk => (hf.2.2.2 129 k (by decide) (by decide) rfl (x10ok_m ok rfl)).trans (hx.1.2.1 k hk), fun p hp => (hf.2.2.2 99 p (by decide) (by decide) rfl (x10ok_m ok rfl)).trans (hx.1.2.2.1 p hp), fun i hi => (hf.2.2.2 142 i (by decide) (by decide) rfl (x10ok_m ok rfl)).trans (hx.1.2.2.2 i hi)⟩,
    fun s hs => ⟨by rw [hf.2.2.2 5 s (by decide) (by decide) rfl (x10ok_m ok rfl), hf.2.2.2 183 s (by decide) (by decide) rfl (x10ok_m ok rfl)]; exact (hx.2.1 s hs).1, by rw [hf.2.2.2 6 s (by decide) (by decide) rfl (x10ok_m ok rfl), hf.2.2.2 184 s (by decide) (by decide) rfl (x10ok_m ok rfl)]; exact (hx.2.1 s hs).2⟩,
    fun k hk => by
      have e : γ' 1020 0 = γ 1020 0 := hg 1020 0 (by decide) (x10ok_m ok rfl)
      rw [e] at hk
      rw [hf.2.2.2 128 k (by decide) (by decide) rfl (x10ok_m ok rfl), hf.2.2.2 202 k (by decide) (by decide) rfl (x10ok_m ok rfl)]
      exact hx.2.2 k hk⟩
theorem gLift9 {s : List Int32} {g : CG} (ok : x10ok g.2.2.2.2.2.2.1 = true) (h : gSound9 s g) : gSound s g := by
  intro γ d σ L st0 st M Q hd hH k
  refine h γ d σ L st0 st M Q hd ⟨hH.1, hH.2.1, hH.2.2.1, aMem_to9 hH.2.2.2⟩ ?_
  intro γ' σ' o L' st' M' ho hl hf hg hx hH'
  exact k γ' σ' o L' st' M' ho hl hf hg hx ⟨hH'.1, hH'.2.1, hH'.2.2.1, aMem_of9 hH'.2.2.2 (x10_fr hf hg ok (aMem_x10 hH.2.2.2))⟩
theorem cLift9 {s : List Int32} {c : CT} (ok : x10ok c.2.2.2.2.2 = true) (h : cSound9 s c) : cSound s c := by
  intro γ d σ L M hd hH
  refine (h γ d σ L M hd ⟨hH.1, hH.2.1, hH.2.2.1, aMem_to9 hH.2.2.2⟩).mono ?_
  intro r M' hq
  obtain ⟨hf, γ', hg, o, ho, σ', hx, hH'⟩ := hq
  exact ⟨hf, γ', hg, o, ho, σ', hx, hH'.1, hH'.2.1, hH'.2.2.1, aMem_of9 hH'.2.2.2 (x10_fr hf hg ok (aMem_x10 hH.2.2.2))⟩

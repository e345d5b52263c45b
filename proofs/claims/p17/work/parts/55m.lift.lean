/-! pieces that know nothing of strips: they leave them as they are -/
theorem aMem_to9 {scr : SG} {M : Mem} (h : aMem scr M) : aMem9 scr M := ⟨⟨h.1.1, h.1.2.1, h.1.2.2.1⟩, h.2⟩
/-- all but the order of deeds -/
def aMemK (scr : SG) (M : Mem) : Prop := (M[0]? = some (64, scr.1.map .int) ∧ x8 scr ∧ x9 scr.2 M ∧ x10 scr.2 M) ∧ M[1]? = some (63, []) ∧ (∀ c, 2 ≤ c → c < tEnd → ∃ fs, M[c]? = some (tTag (tGrp c), fs) ∧ fs.length = tSiz (tGrp c) ∧ ∀ i w, fs[i]? = some w → aTy (tTy (tGrp c) i) w) ∧ tXI scr.2 M
def aHoldK (scr : SG) (σ : Nat → Int) (S : AS) (L : MLoc) (st : List Value) (M : Mem) : Prop := aK scr σ S.1 M ∧ aLs scr σ S.1.1.length S.2.1 L ∧ aSs scr σ S.1.1.length S.2.2 st ∧ aMemK scr M
def cSoundK (s : List Int32) (c : CT) : Prop := ∀ γ d σ L M, c.2.2.1 ≤ d → aHoldK (s, γ) σ c.2.2.2.1 L [] M → Ok d c.1 c.2.1 L [] M (fun r M' => aFr c.2.2.2.2.2 M M' ∧ ∃ γ', gFr c.2.2.2.2.2 γ γ' ∧ ∃ o, o ∈ c.2.2.2.2.1 ∧ ∃ σ', aExt c.2.2.2.1.1.1.length σ σ' ∧ aHoldK (s, γ') σ' o [] r.toList M')
def gSoundK (s : List Int32) (c : CG) : Prop := ∀ γ d σ L st0 st M Q, (c.2.2.2.1 ≤ d ∧ (1 ≤ c.2.2.2.1 → st = [])) → aHoldK (s, γ) σ c.2.2.2.2.1 L st0 M → (∀ γ' σ' o L' st' M', o ∈ c.2.2.2.2.2.1 → (∀ i, aInN i c.2.2.2.2.2.2.2 = false → mLd L' i = mLd L i) → aFr c.2.2.2.2.2.2.1 M M' → gFr c.2.2.2.2.2.2.1 γ γ' → aExt c.2.2.2.2.1.1.1.length σ σ' → aHoldK (s, γ') σ' o [] st' M' → Ok d c.1 c.2.2.1 L' (st' ++ st) M' Q) → Ok d c.1 c.2.1 L (st0 ++ st) M Q
theorem aMemK_to9 {scr : SG} {M : Mem} (h : aMemK scr M) : aMem9 scr M := ⟨⟨h.1.1, h.1.2.1, h.1.2.2.1⟩, h.2⟩
theorem aMemK_of9 {scr : SG} {M : Mem} (h : aMem9 scr M) (x : x10 scr.2 M) : aMemK scr M := ⟨⟨h.1.1, h.1.2.1, h.1.2.2, x⟩, h.2⟩
theorem aMemK_x10 {scr : SG} {M : Mem} (h : aMemK scr M) : x10 scr.2 M := h.1.2.2.2
theorem aMem_toK {scr : SG} {M : Mem} (h : aMem scr M) : aMemK scr M := ⟨⟨h.1.1, h.1.2.1, h.1.2.2.1, h.1.2.2.2.1⟩, h.2⟩
theorem aMem_ofK {scr : SG} {M : Mem} (h : aMemK scr M) (x : xO scr.2 M) : aMem scr M := ⟨⟨h.1.1, h.1.2.1, h.1.2.2.1, h.1.2.2.2, x⟩, h.2⟩
theorem aMem_of9 {scr : SG} {M : Mem} (h : aMem9 scr M) (x : x10 scr.2 M) (y : xO scr.2 M) : aMem scr M := aMem_ofK (aMemK_of9 h x) y
theorem aMem_x10 {scr : SG} {M : Mem} (h : aMem scr M) : x10 scr.2 M := h.1.2.2.2.1
theorem aMem_xO {scr : SG} {M : Mem} (h : aMem scr M) : xO scr.2 M := h.1.2.2.2.2
def x10ok : List (Nat × Nat) → Bool
  | [] => true
  | q :: r => bif q10 q.1 q.2 then false else x10ok r
theorem x10ok_m : ∀ {m : List (Nat × Nat)} {g i : Nat}, x10ok m = true → q10 g i = true → memP g i m = false
  | [], _, _, _, _ => rfl
  | (x, y) :: r, g, i, h, hq => by
    unfold x10ok at h
    unfold memP
    cases hp : q10 x y with
    | true =>
      dsimp only at h
      rw [hp] at h
      cases h
    | false =>
      dsimp only at h
      rw [hp] at h
      cases hx : (Nat.beq x g && Nat.beq y i) with
      | true =>
        rw [Bool.and_eq_true] at hx
        have e1 := Nat.eq_of_beq_eq_true hx.1
        have e2 := Nat.eq_of_beq_eq_true hx.2
        subst e1
        subst e2
        rw [hq] at hp
        cases hp
      | false => exact x10ok_m h hq
def x11ok : List (Nat × Nat) → Bool
  | [] => true
  | q :: r => bif q11 q.1 q.2 then false else x11ok r
theorem x11ok_m : ∀ {m : List (Nat × Nat)} {g i : Nat}, x11ok m = true → q11 g i = true → memP g i m = false
  | [], _, _, _, _ => rfl
  | (x, y) :: r, g, i, h, hq => by
    unfold x11ok at h
    unfold memP
    cases hp : q11 x y with
    | true =>
      dsimp only at h
      rw [hp] at h
      cases h
    | false =>
      dsimp only at h
      rw [hp] at h
      cases hx : (Nat.beq x g && Nat.beq y i) with
      | true =>
        rw [Bool.and_eq_true] at hx
        have e1 := Nat.eq_of_beq_eq_true hx.1
        have e2 := Nat.eq_of_beq_eq_true hx.2
        subst e1
        subst e2
        rw [hq] at hp
        cases hp
      | false => exact x11ok_m h hq
def x13ok : List (Nat × Nat) → Bool
  | [] => true
  | q :: r => bif q14 q.1 q.2 then false else x13ok r
theorem x13ok_m : ∀ {m : List (Nat × Nat)} {g i : Nat}, x13ok m = true → q14 g i = true → memP g i m = false
  | [], _, _, _, _ => rfl
  | (x, y) :: r, g, i, h, hq => by
    unfold x13ok at h
    unfold memP
    cases hp : q14 x y with
    | true =>
      dsimp only at h
      rw [hp] at h
      cases h
    | false =>
      dsimp only at h
      rw [hp] at h
      cases hx : (Nat.beq x g && Nat.beq y i) with
      | true =>
        rw [Bool.and_eq_true] at hx
        have e1 := Nat.eq_of_beq_eq_true hx.1
        have e2 := Nat.eq_of_beq_eq_true hx.2
        subst e1
        subst e2
        rw [hq] at hp
        cases hp
      | false => exact x13ok_m h hq
theorem xK_fr {mod : List (Nat × Nat)} {γ γ' : Gh} {M M' : Mem} (hf : aFr mod M M') (hg : gFr mod γ γ') (ok : x13ok mod = true) (hx : xK γ M) : xK γ' M' :=
  xK_same (hg 1022 0 (by decide) (x13ok_m ok rfl)) (hg 1023 0 (by decide) (x13ok_m ok rfl)) (hg 1023 1 (by decide) (x13ok_m ok rfl)) (fun c i q => hf.2.2.2 c i (qN_pro q).2.1 (qN_pro q).2.2.1 (qN_pro q).1 (x13ok_m ok (qN_pro q).2.2.2)) hx
theorem xP_fr {mod : List (Nat × Nat)} {γ γ' : Gh} {M M' : Mem} (hf : aFr mod M M') (hg : gFr mod γ γ') (ok : x11ok mod = true) (hx : xP γ M) : xP γ' M' := by
  intro h0 k hk
  have e : γ' 1021 0 = γ 1021 0 := hg 1021 0 (by decide) (x11ok_m ok rfl)
  rw [e] at h0
  rw [pR_same (fun c i hq => hf.2.2.2 c i (qP_pro hq).2.1 (qP_pro hq).2.2.1 (qP_pro hq).1 (x11ok_m ok (qP_pro hq).2.2.2))]
  exact hx h0 k hk
theorem x10_fr0 {mod : List (Nat × Nat)} {γ γ' : Gh} {M M' : Mem} (hf : aFr mod M M') (hg : gFr mod γ γ') (ok : x10ok mod = true) (hP : xP γ' M') (hK : xK γ' M') (hx : x10 γ M) : x10 γ' M' :=
  ⟨⟨fun e he => (hf.2.2.2 8 e (by decide) (by decide) rfl (x10ok_m ok rfl)).trans (hx.1.1 e he), fun k hk => (hf.2.2.2 129 k (by decide) (by decide) rfl (x10ok_m ok rfl)).trans (hx.1.2.1 k hk), fun p hp => (hf.2.2.2 99 p (by decide) (by decide) rfl (x10ok_m ok rfl)).trans (hx.1.2.2.1 p hp), fun i hi => (hf.2.2.2 142 i (by decide) (by decide) rfl (x10ok_m ok rfl)).trans (hx.1.2.2.2 i hi)⟩,
    fun s hs => ⟨by rw [hf.2.2.2 5 s (by decide) (by decide) rfl (x10ok_m ok rfl), hf.2.2.2 183 s (by decide) (by decide) rfl (x10ok_m ok rfl)]; exact (hx.2.1 s hs).1, by rw [hf.2.2.2 6 s (by decide) (by decide) rfl (x10ok_m ok rfl), hf.2.2.2 184 s (by decide) (by decide) rfl (x10ok_m ok rfl)]; exact (hx.2.1 s hs).2⟩,
    fun k hk => by
      have e : γ' 1020 0 = γ 1020 0 := hg 1020 0 (by decide) (x10ok_m ok rfl)
      rw [e] at hk
      rw [hf.2.2.2 128 k (by decide) (by decide) rfl (x10ok_m ok rfl), hf.2.2.2 202 k (by decide) (by decide) rfl (x10ok_m ok rfl)]
      exact hx.2.2.1 k hk, hP, xM_same (fun c i q => hf.2.2.2 c i (qM_pro q).2.1 (qM_pro q).2.2.1 (qM_pro q).1 (x10ok_m ok (qM_pro q).2.2.2)) hx.2.2.2.2.1, hK⟩
theorem x10_fr {mod : List (Nat × Nat)} {γ γ' : Gh} {M M' : Mem} (hf : aFr mod M M') (hg : gFr mod γ γ') (ok : (x10ok mod && (x11ok mod && x13ok mod)) = true) (hx : x10 γ M) : x10 γ' M' := by
  rw [Bool.and_eq_true, Bool.and_eq_true] at ok
  exact x10_fr0 hf hg ok.1 (xP_fr hf hg ok.2.1 hx.2.2.2.1) (xK_fr hf hg ok.2.2 hx.2.2.2.2.2) hx
theorem gLift9 {s : List Int32} {g : CG} (ok : (x10ok g.2.2.2.2.2.2.1 && (x11ok g.2.2.2.2.2.2.1 && x13ok g.2.2.2.2.2.2.1)) = true) (h : gSound9 s g) : gSoundK s g := by
  intro γ d σ L st0 st M Q hd hH k
  refine h γ d σ L st0 st M Q hd ⟨hH.1, hH.2.1, hH.2.2.1, aMemK_to9 hH.2.2.2⟩ ?_
  intro γ' σ' o L' st' M' ho hl hf hg hx hH'
  exact k γ' σ' o L' st' M' ho hl hf hg hx ⟨hH'.1, hH'.2.1, hH'.2.2.1, aMemK_of9 hH'.2.2.2 (x10_fr hf hg ok (aMemK_x10 hH.2.2.2))⟩
theorem cLift9 {s : List Int32} {c : CT} (ok : (x10ok c.2.2.2.2.2 && (x11ok c.2.2.2.2.2 && x13ok c.2.2.2.2.2)) = true) (h : cSound9 s c) : cSoundK s c := by
  intro γ d σ L M hd hH
  refine (h γ d σ L M hd ⟨hH.1, hH.2.1, hH.2.2.1, aMemK_to9 hH.2.2.2⟩).mono ?_
  intro r M' hq
  obtain ⟨hf, γ', hg, o, ho, σ', hx, hH'⟩ := hq
  exact ⟨hf, γ', hg, o, ho, σ', hx, hH'.1, hH'.2.1, hH'.2.2.1, aMemK_of9 hH'.2.2.2 (x10_fr hf hg ok (aMemK_x10 hH.2.2.2))⟩
/-! what writes the programs: it asks for the ghost that says that they aren't alike -/
def flgS (S : AS) : AS := ((S.1.1, S.1.2.1, S.1.2.2.1, (1021, 0, (1, 0, .ofNat 1)) :: S.1.2.2.2), S.2)
def flgG (g : CG) : CG := (g.1, g.2.1, g.2.2.1, g.2.2.2.1, flgS g.2.2.2.2.1, g.2.2.2.2.2.1.map flgS, g.2.2.2.2.2.2)
def flgC (c : CT) : CT := (c.1, c.2.1, c.2.2.1, flgS c.2.2.2.1, c.2.2.2.2.1.map flgS, c.2.2.2.2.2)
def flgok (mod : List (Nat × Nat)) (outs : List AS) : Bool := (x10ok mod && x13ok mod) && !(memP 1021 0 mod) && outs.all (fun o => Nat.blt 0 o.1.1.length)
/-- undo's copy of the deeds: the ghost of the columns is 0 behind it -/
def kdzS (S : AS) : AS := ((S.1.1, S.1.2.1, S.1.2.2.1, (1022, 0, (1, 0, .ofNat 0)) :: S.1.2.2.2), S.2)
def kdzC (c : CT) : CT := (c.1, c.2.1, c.2.2.1, c.2.2.2.1, c.2.2.2.2.1.map kdzS, (1022, 0) :: c.2.2.2.2.2)
theorem flg_in {scr : SG} {σ : Nat → Int} {S : AS} {M : Mem} (h : aK scr σ (flgS S).1 M) : aK scr σ S.1 M ∧ (scr.2 1021 0).toInt = 1 := by
  refine ⟨⟨h.1, h.2.1, h.2.2.1, fun g i v hm => h.2.2.2 g i v (List.mem_cons_of_mem _ hm)⟩, ?_⟩
  obtain ⟨h1, x, h2, h3⟩ := (h.2.2.2 1021 0 (1, 0, .ofNat 1) List.mem_cons_self).2 (by decide)
  cases h2
  have h3 : (scr.2 1021 0).toInt = σ 0 + 1 := h3
  have h0 : σ 0 = 0 := h.2.1.1
  omega
theorem flg_out {scr : SG} {σ : Nat → Int} {S : AS} {M : Mem} (hn : 0 < S.1.1.length) (h : aK scr σ S.1 M) (hf : (scr.2 1021 0).toInt = 1) : aK scr σ (flgS S).1 M := by
  refine ⟨h.1, h.2.1, h.2.2.1, ?_⟩
  intro g i v hm
  rcases List.mem_cons.mp hm with e | e
  · cases e
    refine ⟨fun a a2 a3 a4 => absurd (tGrp_lt a3) (by rw [a4]; decide), fun _ => ⟨hn, _, rfl, ?_⟩⟩
    have h0 : σ 0 = 0 := h.2.1.1
    show (scr.2 1021 0).toInt = σ 0 + 1
    omega
  · exact h.2.2.2 g i v e
theorem xP_flg {γ : Gh} {M : Mem} (h : (γ 1021 0).toInt = 1) : xP γ M := fun h0 => absurd h0 (by rw [h]; decide)
theorem gLiftF {s : List Int32} {g : CG} (ok : flgok g.2.2.2.2.2.2.1 g.2.2.2.2.2.1 = true) (h : gSound9 s g) : gSoundK s (flgG g) := by
  unfold flgok at ok
  rw [Bool.and_eq_true, Bool.and_eq_true, Bool.and_eq_true] at ok
  obtain ⟨⟨⟨ok1, okK⟩, ok2⟩, ok3⟩ := ok
  have ok2 : memP 1021 0 g.2.2.2.2.2.2.1 = false := by
    cases hq : memP 1021 0 g.2.2.2.2.2.2.1 with
    | false => rfl
    | true => rw [hq] at ok2; cases ok2
  intro γ d σ L st0 st M Q hd hH k
  obtain ⟨hK, hF⟩ := flg_in hH.1
  refine h γ d σ L st0 st M Q hd ⟨hK, hH.2.1, hH.2.2.1, aMemK_to9 hH.2.2.2⟩ ?_
  intro γ' σ' o L' st' M' ho hl hf hg hx hH'
  have eF : γ' 1021 0 = γ 1021 0 := hg 1021 0 (by decide) ok2
  have hF' : (γ' 1021 0).toInt = 1 := by rw [eF]; exact hF
  have hn := Nat.le_of_ble_eq_true (List.all_eq_true.mp ok3 o ho)
  exact k γ' σ' (flgS o) L' st' M' (List.mem_map_of_mem ho) hl hf hg hx ⟨flg_out hn hH'.1 hF', hH'.2.1, hH'.2.2.1, aMemK_of9 hH'.2.2.2 (x10_fr0 hf hg ok1 (xP_flg hF') (xK_fr hf hg okK (aMemK_x10 hH.2.2.2).2.2.2.2.2) (aMemK_x10 hH.2.2.2))⟩
theorem cLiftF {s : List Int32} {c : CT} (ok : flgok c.2.2.2.2.2 c.2.2.2.2.1 = true) (h : cSound9 s c) : cSoundK s (flgC c) := by
  unfold flgok at ok
  rw [Bool.and_eq_true, Bool.and_eq_true, Bool.and_eq_true] at ok
  obtain ⟨⟨⟨ok1, okK⟩, ok2⟩, ok3⟩ := ok
  have ok2 : memP 1021 0 c.2.2.2.2.2 = false := by
    cases hq : memP 1021 0 c.2.2.2.2.2 with
    | false => rfl
    | true => rw [hq] at ok2; cases ok2
  intro γ d σ L M hd hH
  obtain ⟨hK, hF⟩ := flg_in hH.1
  refine (h γ d σ L M hd ⟨hK, hH.2.1, hH.2.2.1, aMemK_to9 hH.2.2.2⟩).mono ?_
  intro r M' hq
  obtain ⟨hf, γ', hg, o, ho, σ', hx, hH'⟩ := hq
  have eF : γ' 1021 0 = γ 1021 0 := hg 1021 0 (by decide) ok2
  have hF' : (γ' 1021 0).toInt = 1 := by rw [eF]; exact hF
  have hn := Nat.le_of_ble_eq_true (List.all_eq_true.mp ok3 o ho)
  exact ⟨hf, γ', hg, flgS o, List.mem_map_of_mem ho, σ', hx, flg_out hn hH'.1 hF', hH'.2.1, hH'.2.2.1, aMemK_of9 hH'.2.2.2 (x10_fr0 hf hg ok1 (xP_flg hF') (xK_fr hf hg okK (aMemK_x10 hH.2.2.2).2.2.2.2.2) (aMemK_x10 hH.2.2.2))⟩
/-! the order of deeds is left as it is, or its ghost is set -/
def x15ok : List (Nat × Nat) → Bool
  | [] => true
  | q :: r => bif q15 q.1 q.2 then false else x15ok r
theorem x15ok_m : ∀ {m : List (Nat × Nat)} {g i : Nat}, x15ok m = true → q15 g i = true → memP g i m = false
  | [], _, _, _, _ => rfl
  | (x, y) :: r, g, i, h, hq => by
    unfold x15ok at h
    unfold memP
    cases hp : q15 x y with
    | true =>
      dsimp only at h
      rw [hp] at h
      cases h
    | false =>
      dsimp only at h
      rw [hp] at h
      cases hx : (Nat.beq x g && Nat.beq y i) with
      | true =>
        rw [Bool.and_eq_true] at hx
        have e1 := Nat.eq_of_beq_eq_true hx.1
        have e2 := Nat.eq_of_beq_eq_true hx.2
        subst e1
        subst e2
        rw [hq] at hp
        cases hp
      | false => exact x15ok_m h hq
theorem xO_fr {mod : List (Nat × Nat)} {γ γ' : Gh} {M M' : Mem} (hf : aFr mod M M') (hg : gFr mod γ γ') (ok : x15ok mod = true) (hx : xO γ M) : xO γ' M' :=
  xO_same (hg 1024 0 (by decide) (x15ok_m ok rfl)) (fun c i q => hf.2.2.2 c i (qR_pro q).2.1 (qR_pro q).2.2.1 (qR_pro q).1 (x15ok_m ok (qR_pro q).2.2.2)) hx
theorem gLiftK {s : List Int32} {g : CG} (ok : x15ok g.2.2.2.2.2.2.1 = true) (h : gSoundK s g) : gSound s g := by
  intro γ d σ L st0 st M Q hd hH k
  refine h γ d σ L st0 st M Q hd ⟨hH.1, hH.2.1, hH.2.2.1, aMem_toK hH.2.2.2⟩ ?_
  intro γ' σ' o L' st' M' ho hl hf hg hx hH'
  exact k γ' σ' o L' st' M' ho hl hf hg hx ⟨hH'.1, hH'.2.1, hH'.2.2.1, aMem_ofK hH'.2.2.2 (xO_fr hf hg ok (aMem_xO hH.2.2.2))⟩
theorem cLiftK {s : List Int32} {c : CT} (ok : x15ok c.2.2.2.2.2 = true) (h : cSoundK s c) : cSound s c := by
  intro γ d σ L M hd hH
  refine (h γ d σ L M hd ⟨hH.1, hH.2.1, hH.2.2.1, aMem_toK hH.2.2.2⟩).mono ?_
  intro r M' hq
  obtain ⟨hf, γ', hg, o, ho, σ', hx, hH'⟩ := hq
  exact ⟨hf, γ', hg, o, ho, σ', hx, hH'.1, hH'.2.1, hH'.2.2.1, aMem_ofK hH'.2.2.2 (xO_fr hf hg ok (aMem_xO hH.2.2.2))⟩
def flOS (S : AS) : AS := ((S.1.1, S.1.2.1, S.1.2.2.1, (1024, 0, (1, 0, .ofNat 1)) :: S.1.2.2.2), S.2)
def flOG (g : CG) : CG := (g.1, g.2.1, g.2.2.1, g.2.2.2.1, flOS g.2.2.2.2.1, g.2.2.2.2.2.1.map flOS, g.2.2.2.2.2.2)
def flOok (mod : List (Nat × Nat)) (outs : List AS) : Bool := !(memP 1024 0 mod) && outs.all (fun o => Nat.blt 0 o.1.1.length)
theorem flO_in {scr : SG} {σ : Nat → Int} {S : AS} {M : Mem} (h : aK scr σ (flOS S).1 M) : aK scr σ S.1 M ∧ (scr.2 1024 0).toInt = 1 := by
  refine ⟨⟨h.1, h.2.1, h.2.2.1, fun g i v hm => h.2.2.2 g i v (List.mem_cons_of_mem _ hm)⟩, ?_⟩
  obtain ⟨h1, x, h2, h3⟩ := (h.2.2.2 1024 0 (1, 0, .ofNat 1) List.mem_cons_self).2 (by decide)
  cases h2
  have h3 : (scr.2 1024 0).toInt = σ 0 + 1 := h3
  have h0 : σ 0 = 0 := h.2.1.1
  omega
theorem flO_out {scr : SG} {σ : Nat → Int} {S : AS} {M : Mem} (hn : 0 < S.1.1.length) (h : aK scr σ S.1 M) (hf : (scr.2 1024 0).toInt = 1) : aK scr σ (flOS S).1 M := by
  refine ⟨h.1, h.2.1, h.2.2.1, ?_⟩
  intro g i v hm
  rcases List.mem_cons.mp hm with e | e
  · cases e
    refine ⟨fun a a2 a3 a4 => absurd (tGrp_lt a3) (by rw [a4]; decide), fun _ => ⟨hn, _, rfl, ?_⟩⟩
    have h0 : σ 0 = 0 := h.2.1.1
    show (scr.2 1024 0).toInt = σ 0 + 1
    omega
  · exact h.2.2.2 g i v e
theorem gLiftO {s : List Int32} {g : CG} (ok : flOok g.2.2.2.2.2.2.1 g.2.2.2.2.2.1 = true) (h : gSoundK s g) : gSound s (flOG g) := by
  unfold flOok at ok
  rw [Bool.and_eq_true] at ok
  obtain ⟨ok2, ok3⟩ := ok
  have ok2 : memP 1024 0 g.2.2.2.2.2.2.1 = false := by
    cases hq : memP 1024 0 g.2.2.2.2.2.2.1 with
    | false => rfl
    | true => rw [hq] at ok2; cases ok2
  intro γ d σ L st0 st M Q hd hH k
  obtain ⟨hK, hF⟩ := flO_in hH.1
  refine h γ d σ L st0 st M Q hd ⟨hK, hH.2.1, hH.2.2.1, aMem_toK hH.2.2.2⟩ ?_
  intro γ' σ' o L' st' M' ho hl hf hg hx hH'
  have eF : γ' 1024 0 = γ 1024 0 := hg 1024 0 (by decide) ok2
  have hF' : (γ' 1024 0).toInt = 1 := by rw [eF]; exact hF
  have hn := Nat.le_of_ble_eq_true (List.all_eq_true.mp ok3 o ho)
  exact k γ' σ' (flOS o) L' st' M' (List.mem_map_of_mem ho) hl hf hg hx ⟨flO_out hn hH'.1 hF', hH'.2.1, hH'.2.2.1, aMem_ofK hH'.2.2.2 (xO_1 hF')⟩

/-! programs: what a clause's codes keep (by hand) -/
theorem ic_0 {w F : Nat → Int} {C : Nat} : IC C 0 0 w F (fun _ => 0) C := ⟨fun i hi hC => absurd hC (by omega), Nat.le_refl _, rfl, ⟨Nat.le_refl _, fun k hk => absurd hk (by omega)⟩, fun k _ hk => absurd hk (by omega)⟩
def PT (F ty : Nat → Int) (b C : Nat) (v : Int) : Prop := (∀ i, b ≤ i → i < C → tyOk F ty (fun _ => False) C i ∧ ty i ≤ 16) ∧ b ≤ C ∧ ty b = 0 ∧ ty C = v
theorem ic_done {b0 : Nat} {w F ty : Nat → Int} {C : Nat} {v : Int} (h : IC b0 0 0 w F ty C) (hv : ty C = v) : PT F ty b0 C v := ⟨fun i hi hC => ⟨tyOk_same (h.1 i hi hC).1 rfl rfl rfl (fun ⟨k, k1, _⟩ => absurd k1 (by omega)) (Nat.le_refl _) (fun _ _ => rfl), (h.1 i hi hC).2⟩, h.2.1, h.2.2.1, hv⟩
theorem PT.cg {F F' ty : Nat → Int} {b C : Nat} {v : Int} (h : PT F ty b C v) (e : ∀ i, i < C → F' i = F i) : PT F' ty b C v := ⟨fun i hi hC => ⟨tyOk_same (h.1 i hi hC).1 (e i hC) rfl rfl id (Nat.le_refl _) (fun _ _ => rfl), (h.1 i hi hC).2⟩, h.2⟩
theorem cle_ty {t : Int → Int} {Q P' : PS} (hz : Q.1.2.1 = 0 ∧ Q.1.2.2.2 = 0) (h : ClE t Q P') (hC : P'.1.2.2.1 < 1048576) : (∃ ty, PT P'.2.1 ty Q.1.2.2.1 P'.1.2.2.1 (-1)) ∧ (∀ i, i < Q.1.2.2.1 → P'.2.1 i = Q.2.1 i) ∧ Q.1.2.2.1 ≤ P'.1.2.2.1 ∧ P'.1.2.1 = 0 ∧ P'.1.2.2.2 = 0 := by
  obtain ⟨t40, R, ⟨k, hk⟩, e⟩ := h
  subst e
  obtain ⟨⟨p, o, C, W⟩, F, w⟩ := Q
  have z1 : o = 0 := hz.1
  have z2 : W = 0 := hz.2
  subst z1
  subst z2
  have t40 : t p = 40 := t40
  cases k with
  | zero =>
    have q : (2 : Nat) = 7 := congrArg (fun c : CF => c.1) hk
    exact absurd q (by decide)
  | succ k =>
    have e1 : sm t (2, 0, 0, (p, 0, C, 0), F, w) = (2, 0, 0, (p + 1, 0 + 1, C, 0 + 1), F, pUp w 0 13631488) := by
      show sP t ((p, 0, C, 0), F, w) = _
      rw [sP_eq, if_neg (by omega), if_pos t40, if_neg (by decide)]
    have hk : smN t k (sm t (2, 0, 0, (p, 0, C, 0), F, w)) = (7, 0, 0, R) := hk
    rw [e1] at hk
    have a13 : cOp 13631488 = 13 := by unfold cOp; omega
    have i0 : ITc false C (fun _ => 0) (2, 0, 0, (p + 1, 0 + 1, C, 0 + 1), F, pUp w 0 13631488) :=
      it_mk2 (ic_open ic_0 (Or.inr a13)) rfl (by rw [opN_push, if_pos (Or.inr (Or.inl a13))]; rfl) (by decide) rfl (by decide) (by rw [pUp_eq]; exact a13)
    obtain ⟨ty', ⟨_, f'⟩, n1, n2⟩ := it_run (t := t) k _ _ i0 (show (2 : Nat) ≤ 4 by decide) (by rw [hk]) (by rw [hk]; exact hC)
    rw [hk] at f' n1 n2
    have n3 := ic_done n1 n2
    exact ⟨⟨ty', n3⟩, f', n3.2.1, rfl, rfl⟩
theorem clq_ty {t : Int → Int} {P Q : PS} (hz : P.1.2.1 = 0 ∧ P.1.2.2.2 = 0) (h : ClQ t P Q) (hC : Q.1.2.2.1 < 1048576) : (t P.1.1 = 121 → ∃ ty, PT Q.2.1 ty P.1.2.2.1 Q.1.2.2.1 1) ∧ (∀ i, i < P.1.2.2.1 → Q.2.1 i = P.2.1 i) ∧ P.1.2.2.1 ≤ Q.1.2.2.1 ∧ Q.1.2.1 = 0 ∧ Q.1.2.2.2 = 0 := by
  rcases h with ⟨t121, R, ⟨k, hk⟩, e⟩ | ⟨q, e⟩
  · subst e
    obtain ⟨⟨p, o, C, W⟩, F, w⟩ := P
    have z1 : o = 0 := hz.1
    have z2 : W = 0 := hz.2
    subst z1
    subst z2
    have hk : smN t k (0, 0, 0, (p + 1, 0, C, 0), F, w) = (7, 0, 0, R) := hk
    have i0 : ITc true C (fun _ => 0) (0, 0, 0, (p + 1, 0, C, 0), F, w) := it_mk0 ic_0 rfl rfl (by decide) (Or.inl ⟨rfl, rfl, rfl⟩)
    obtain ⟨ty', ⟨_, f'⟩, n1, n2⟩ := it_run (t := t) k _ _ i0 (show (0 : Nat) ≤ 4 by decide) (by rw [hk]) (by rw [hk]; exact hC)
    rw [hk] at f' n1 n2
    have n3 := ic_done n1 n2
    exact ⟨fun _ => ⟨ty', n3⟩, f', n3.2.1, rfl, rfl⟩
  · subst e
    exact ⟨fun c => absurd c (by omega), fun _ _ => rfl, Nat.le_refl _, hz⟩
theorem RdS.z {t : Int → Int} {f g : Nat → Int} : ∀ {k : Nat} {P : PS}, RdS t f g k P → P.1.2.1 = 0 ∧ P.1.2.2.2 = 0
  | 0, P, h => by
    have h : P = ((0, 0, 0, 0), f, g) := h
    subst h
    exact ⟨rfl, rfl⟩
  | k + 1, P, h => by
    obtain ⟨P0, Q, P1, h0, _, hq, ⟨_, R, _, e⟩, _, e2⟩ := h
    subst e2
    subst e
    exact ⟨rfl, rfl⟩
/-- what is read later leaves a clause's codes as they are -/
theorem RdS.keep {t : Int → Int} {f g : Nat → Int} {j : Nat} {P Q P1 : PS} (h0 : RdS t f g j P) (hq : ClQ t P Q) (he : ClE t Q P1) : ∀ {k : Nat} {P' : PS}, RdS t f g k P' → j < k → P'.1.2.2.1 < 1048576 → P1.1.2.2.1 ≤ P'.1.2.2.1 ∧ ∀ i, i < P1.1.2.2.1 → P'.2.1 i = P1.2.1 i
  | 0, _, _, hj, _ => absurd hj (by omega)
  | k + 1, P', h, hj, hC => by
    obtain ⟨A0, B, A1, a0, _, bq, be, _, e⟩ := h
    subst e
    by_cases c : j = k
    · subst c
      have e0 := RdS.one h0 a0
      subst e0
      have e1 := ClQ.one hq bq
      subst e1
      have e2 := ClE.one he be
      subst e2
      exact ⟨Nat.le_refl _, fun _ _ => rfl⟩
    · have hC : A1.1.2.2.1 < 1048576 := hC
      have z0 := a0.z
      have zq : B.1.2.1 = 0 ∧ B.1.2.2.2 = 0 := by
        rcases bq with ⟨_, R, _, e⟩ | ⟨_, e⟩
        · subst e
          exact ⟨rfl, rfl⟩
        · subst e
          exact z0
      obtain ⟨_, k2, l2, _⟩ := cle_ty zq be hC
      obtain ⟨_, k1, l1, _⟩ := clq_ty z0 bq (by omega)
      obtain ⟨l0, k0⟩ := RdS.keep h0 hq he a0 (by omega) (by omega)
      refine ⟨by show P1.1.2.2.1 ≤ A1.1.2.2.1; omega, fun i hi => ?_⟩
      show A1.2.1 i = _
      rw [k2 i (by omega), k1 i (by omega), k0 i hi]
/-- a clause of a whole law: its condition, its span -/
theorem cl_ty {t : Int → Int} {f g : Nat → Int} {j n : Nat} {P Q P1 PL QL L1 : PS} (h0 : RdS t f g j P) (hq : ClQ t P Q) (he : ClE t Q P1) (hl : RdS t f g n PL) (hlq : ClQ t PL QL) (hle : ClE t QL L1) (hj : j ≤ n) (hC : L1.1.2.2.1 < 1048576) : (∃ ty, PT L1.2.1 ty Q.1.2.2.1 P1.1.2.2.1 (-1)) ∧ (t P.1.1 = 121 → ∃ ty, PT L1.2.1 ty P.1.2.2.1 Q.1.2.2.1 1) ∧ P1.1.2.2.1 ≤ L1.1.2.2.1 := by
  have zz : ∀ {j : Nat} {P Q : PS}, RdS t f g j P → ClQ t P Q → Q.1.2.1 = 0 ∧ Q.1.2.2.2 = 0 := fun a b => by
    rcases b with ⟨_, R, _, e⟩ | ⟨_, e⟩
    · subst e
      exact ⟨rfl, rfl⟩
    · subst e
      exact a.z
  obtain ⟨_, l2, m2, _⟩ := cle_ty (zz hl hlq) hle hC
  obtain ⟨_, l1, m1, _⟩ := clq_ty hl.z hlq (by omega)
  have key : P1.1.2.2.1 ≤ L1.1.2.2.1 ∧ ∀ i, i < P1.1.2.2.1 → L1.2.1 i = P1.2.1 i := by
    by_cases c : j = n
    · subst c
      have e0 := RdS.one h0 hl
      subst e0
      have e1 := ClQ.one hq hlq
      subst e1
      have e2 := ClE.one he hle
      subst e2
      exact ⟨Nat.le_refl _, fun _ _ => rfl⟩
    · obtain ⟨a, b⟩ := RdS.keep h0 hq he hl (by omega) (by omega)
      exact ⟨by omega, fun i hi => by rw [l2 i (by omega), l1 i (by omega), b i hi]⟩
  obtain ⟨⟨ty, c1⟩, k2, l3, _⟩ := cle_ty (zz h0 hq) he (by omega)
  refine ⟨⟨ty, c1.cg key.2⟩, fun q => ?_, key.1⟩
  obtain ⟨s1, k1, l4, _⟩ := clq_ty h0.z hq (by omega)
  obtain ⟨ty2, c2⟩ := s1 q
  exact ⟨ty2, (c2.cg k2).cg (fun i hi => key.2 i (by omega))⟩

/-! programs: what stands on the stack at each code (by hand) -/
def cOp (v : Int) : Int := v / 1048576
def cAr (v : Int) : Int := v % 1048576
/-- a code keeps the labels: so many numbers, or -1: one truth value -/
def tyOk (F ty : Nat → Int) (pend : Nat → Prop) (C i : Nat) : Prop :=
  ((cOp (F i) = 0 ∨ (cOp (F i) = 1 ∧ cAr (F i) < 14)) ∧ 0 ≤ ty i ∧ ty (i + 1) = ty i + 1) ∨
  ((2 ≤ cOp (F i) ∧ cOp (F i) ≤ 6) ∧ 2 ≤ ty i ∧ ty (i + 1) = ty i - 1) ∨
  ((7 ≤ cOp (F i) ∧ cOp (F i) ≤ 9) ∧ ty i = 2 ∧ ty (i + 1) = -1) ∨
  (cOp (F i) = 10 ∧ ty i = -1 ∧ ty (i + 1) = -1) ∨
  ((cOp (F i) = 11 ∨ cOp (F i) = 12) ∧ ty i = -1 ∧ ty (i + 1) = 0 ∧ (pend i ∨ ∃ v : Nat, cAr (F i) = v ∧ i < v ∧ v ≤ C ∧ ty v = -1))
def isAr (v : Int) : Bool := decide (2 ≤ cOp v) && decide (cOp v ≤ 6)
/-- arithmetic signs that wait from b on, below k -/
def arN (w : Nat → Int) (b : Nat) : Nat → Nat
  | 0 => 0
  | k + 1 => arN w b k + (if b ≤ k ∧ isAr (w k) = true then 1 else 0)
/-- what is open: brackets and ! -/
def opN (w : Nat → Int) : Nat → Nat
  | 0 => 0
  | k + 1 => opN w k + (if cOp (w k) = 10 ∨ cOp (w k) = 13 ∨ cOp (w k) = 14 then 1 else 0)
/-- what stands on the stack when the machine is at c -/
def tyC (c : CF) : Int :=
  if c.1 = 0 then (arN c.2.2.2.2.2 c.2.1 c.2.2.2.1.2.2.2 : Int) + (if 7 ≤ c.2.2.1 then 1 else 0)
  else if c.1 = 1 then (arN c.2.2.2.2.2 c.2.1 c.2.2.2.1.2.2.2 : Int) + (if 7 ≤ c.2.2.1 then 1 else 0) + 1
  else if c.1 = 2 then 0 else -1
/-- where the sum begins among what waits -/
def tyBc (c : CF) : Nat := if c.1 = 0 ∨ c.1 = 1 then c.2.1 else c.2.2.2.1.2.2.2
def pendO (w : Nat → Int) (W : Nat) (i : Nat) : Prop := ∃ k, k < W ∧ (cOp (w k) = 11 ∨ cOp (w k) = 12) ∧ w k = cOp (w k) * 1048576 + i
/-- one that waits below the sum -/
def wtC (F ty w : Nat → Int) (b0 C k : Nat) : Prop := (cOp (w k) = 10 ∨ cOp (w k) = 13) ∨ ((cOp (w k) = 11 ∨ cOp (w k) = 12) ∧ ∃ p : Nat, w k = cOp (w k) * 1048576 + p ∧ b0 ≤ p ∧ p < C ∧ p < 1048576 ∧ cOp (F p) = cOp (w k) ∧ ty p = -1 ∧ ty (p + 1) = 0)
/-! the invariant's core: codes, what waits -/
def IC (b0 B W : Nat) (w F ty : Nat → Int) (C : Nat) : Prop :=
  (∀ i, b0 ≤ i → i < C → tyOk F ty (pendO w W) C i ∧ ty i ≤ 16) ∧ b0 ≤ C ∧ ty b0 = 0 ∧
  (B ≤ W ∧ ∀ k, k < W → (k < B → wtC F ty w b0 C k) ∧ (B ≤ k → isAr (w k) = true ∨ cOp (w k) = 14)) ∧
  ∀ k, B ≤ k → k + 1 < W → isAr (w k) = true → isAr (w (k + 1)) = true → cOp (w k) ≤ 3 ∧ 4 ≤ cOp (w (k + 1))
theorem pUp_eq {f : Nat → Int} {i : Nat} {v : Int} : pUp f i v i = v := if_pos rfl
theorem tyOk_same {F F' ty ty' : Nat → Int} {pend pend' : Nat → Prop} {C C' i : Nat} (h : tyOk F ty pend C i) (eF : F' i = F i) (e0 : ty' i = ty i) (e1 : ty' (i + 1) = ty (i + 1)) (ep : pend i → pend' i) (eC : C ≤ C') (ev : ∀ v, v ≤ C → ty' v = ty v) : tyOk F' ty' pend' C' i := by
  unfold tyOk at h ⊢
  rw [eF, e0, e1]
  rcases h with h | h | h | h | ⟨h1, h2, h3, h4⟩
  · exact Or.inl h
  · exact Or.inr (Or.inl h)
  · exact Or.inr (Or.inr (Or.inl h))
  · exact Or.inr (Or.inr (Or.inr (Or.inl h)))
  · refine Or.inr (Or.inr (Or.inr (Or.inr ⟨h1, h2, h3, ?_⟩)))
    rcases h4 with h4 | ⟨v, v1, v2, v3, v4⟩
    · exact Or.inl (ep h4)
    · exact Or.inr ⟨v, v1, v2, by omega, by rw [ev v v3]; exact v4⟩
/-- a code that is no jump -/
theorem ic_emit {b0 B W : Nat} {w F ty : Nat → Int} {C : Nat} {v x : Int} (h : IC b0 B W w F ty C) (hv : ((cOp v = 0 ∨ (cOp v = 1 ∧ cAr v < 14)) ∧ 0 ≤ ty C ∧ x = ty C + 1) ∨ ((2 ≤ cOp v ∧ cOp v ≤ 6) ∧ 2 ≤ ty C ∧ x = ty C - 1) ∨ ((7 ≤ cOp v ∧ cOp v ≤ 9) ∧ ty C = 2 ∧ x = -1) ∨ (cOp v = 10 ∧ ty C = -1 ∧ x = -1)) (h16 : ty C ≤ 16) : IC b0 B W w (pUp F C v) (pUp ty (C + 1) x) (C + 1) := by
  obtain ⟨h1, h2, h3, ⟨h4, h5⟩, h6⟩ := h
  refine ⟨fun i hi hC => ?_, by omega, by rw [pUp_ne (by omega)]; exact h3, ⟨h4, fun k hk => ⟨fun hb => ?_, (h5 k hk).2⟩⟩, h6⟩
  · by_cases c : i = C
    · subst c
      refine ⟨?_, by rw [pUp_ne (by omega)]; exact h16⟩
      unfold tyOk
      rw [pUp_eq, pUp_eq, pUp_ne (show i ≠ i + 1 by omega)]
      rcases hv with hv | hv | hv | hv
      · exact Or.inl hv
      · exact Or.inr (Or.inl hv)
      · exact Or.inr (Or.inr (Or.inl hv))
      · exact Or.inr (Or.inr (Or.inr (Or.inl hv)))
    · obtain ⟨a, b⟩ := h1 i hi (by omega)
      exact ⟨tyOk_same a (pUp_ne c) (pUp_ne (by omega)) (pUp_ne (by omega)) id (by omega) (fun u hu => pUp_ne (by omega)), by rw [pUp_ne (by omega)]; exact b⟩
  · rcases (h5 k hk).1 hb with q | ⟨q, p, p1, p2, p3, p4, p5, p6, p7⟩
    · exact Or.inl q
    · exact Or.inr ⟨q, p, p1, p2, by omega, p4, by rw [pUp_ne (by omega)]; exact p5, by rw [pUp_ne (by omega)]; exact p6, by rw [pUp_ne (by omega)]; exact p7⟩
/-- what waits changes at the top, above the base; no jump is touched -/
theorem ic_wait {b0 B W W' : Nat} {w w' F ty : Nat → Int} {C : Nat} (h : IC b0 B W w F ty C) (hB : B ≤ W') (e : ∀ k, k < B → w' k = w k) (hn : ∀ k, B ≤ k → k < W' → isAr (w' k) = true ∨ cOp (w' k) = 14) (ha : ∀ k, B ≤ k → k + 1 < W' → isAr (w' k) = true → isAr (w' (k + 1)) = true → cOp (w' k) ≤ 3 ∧ 4 ≤ cOp (w' (k + 1))) : IC b0 B W' w' F ty C := by
  obtain ⟨h1, h2, h3, ⟨h4, h5⟩, h6⟩ := h
  have nj : ∀ k, B ≤ k → k < W → ¬ (cOp (w k) = 11 ∨ cOp (w k) = 12) := fun k a b => by
    rcases (h5 k b).2 a with q | q
    · unfold isAr at q
      rw [Bool.and_eq_true, decide_eq_true_iff, decide_eq_true_iff] at q
      omega
    · omega
  refine ⟨fun i hi hC => ?_, h2, h3, ⟨hB, fun k hk => ⟨fun hb => ?_, fun hb => hn k hb hk⟩⟩, ha⟩
  · obtain ⟨a, b⟩ := h1 i hi hC
    refine ⟨tyOk_same a rfl rfl rfl (fun ⟨k, k1, k2, k3⟩ => ?_) (Nat.le_refl _) (fun _ _ => rfl), b⟩
    have kb : k < B := by
      by_cases c : B ≤ k
      · exact absurd k2 (nj k c k1)
      · omega
    exact ⟨k, by omega, by rw [e k kb]; exact k2, by rw [e k kb]; exact k3⟩
  · have q := (h5 k (by omega)).1 hb
    unfold wtC at q ⊢
    rw [e k hb]
    exact q
/-- a bracket or ! of a condition waits -/
theorem ic_open {b0 W : Nat} {w F ty : Nat → Int} {C : Nat} {v : Int} (h : IC b0 W W w F ty C) (hv : cOp v = 10 ∨ cOp v = 13) : IC b0 (W + 1) (W + 1) (pUp w W v) F ty C := by
  obtain ⟨h1, h2, h3, ⟨h4, h5⟩, _⟩ := h
  refine ⟨fun i hi hC => ?_, h2, h3, ⟨Nat.le_refl _, fun k hk => ⟨fun _ => ?_, fun hb => absurd hb (by omega)⟩⟩, fun k a b => absurd a (by omega)⟩
  · obtain ⟨a, b⟩ := h1 i hi hC
    refine ⟨tyOk_same a rfl rfl rfl (fun ⟨k, k1, k2, k3⟩ => ⟨k, by omega, by rw [pUp_ne (by omega)]; exact k2, by rw [pUp_ne (by omega)]; exact k3⟩) (Nat.le_refl _) (fun _ _ => rfl), b⟩
  · by_cases c : k = W
    · subst c
      unfold wtC
      rw [pUp_eq]
      exact Or.inl hv
    · have q := (h5 k (by omega)).1 (by omega)
      unfold wtC at q ⊢
      rw [pUp_ne c]
      exact q
/-- it waits no longer -/
theorem ic_close {b0 W : Nat} {w F ty : Nat → Int} {C : Nat} (h : IC b0 (W + 1) (W + 1) w F ty C) (hv : ¬ (cOp (w W) = 11 ∨ cOp (w W) = 12)) : IC b0 W W w F ty C := by
  obtain ⟨h1, h2, h3, ⟨h4, h5⟩, _⟩ := h
  refine ⟨fun i hi hC => ?_, h2, h3, ⟨Nat.le_refl _, fun k hk => ⟨fun _ => (h5 k (by omega)).1 (by omega), fun hb => absurd hb (by omega)⟩⟩, fun k a b => absurd a (by omega)⟩
  obtain ⟨a, b⟩ := h1 i hi hC
  refine ⟨tyOk_same a rfl rfl rfl (fun ⟨k, k1, k2, k3⟩ => ?_) (Nat.le_refl _) (fun _ _ => rfl), b⟩
  by_cases c : k = W
  · rw [c] at k2
    exact absurd k2 hv
  · exact ⟨k, by omega, k2, k3⟩
/-- a jump waits -/
theorem ic_jump {b0 W : Nat} {w F ty : Nat → Int} {C : Nat} {op : Int} (h : IC b0 W W w F ty C) (ho : op = 11 ∨ op = 12) (hC : C < 1048576) (ht : ty C = -1) : IC b0 (W + 1) (W + 1) (pUp w W (op * 1048576 + C)) (pUp F C (op * 1048576)) (pUp ty (C + 1) 0) (C + 1) := by
  obtain ⟨h1, h2, h3, ⟨h4, h5⟩, _⟩ := h
  have eo : cOp (op * 1048576 + (C : Int)) = op := by unfold cOp; omega
  have eo2 : cOp (op * 1048576) = op := by unfold cOp; omega
  refine ⟨fun i hi hC' => ?_, by omega, by rw [pUp_ne (by omega)]; exact h3, ⟨Nat.le_refl _, fun k hk => ⟨fun _ => ?_, fun hb => absurd hb (by omega)⟩⟩, fun k a b => absurd a (by omega)⟩
  · by_cases c : i = C
    · subst c
      refine ⟨?_, by rw [pUp_ne (by omega)]; omega⟩
      unfold tyOk
      rw [pUp_eq, pUp_eq, pUp_ne (show i ≠ i + 1 by omega), eo2]
      exact Or.inr (Or.inr (Or.inr (Or.inr ⟨ho, ht, rfl, Or.inl ⟨W, by omega, by rw [pUp_eq, eo]; exact ho, by rw [pUp_eq, eo]⟩⟩)))
    · obtain ⟨a, b⟩ := h1 i hi (by omega)
      exact ⟨tyOk_same a (pUp_ne c) (pUp_ne (by omega)) (pUp_ne (by omega)) (fun ⟨k, k1, k2, k3⟩ => ⟨k, by omega, by rw [pUp_ne (by omega)]; exact k2, by rw [pUp_ne (by omega)]; exact k3⟩) (by omega) (fun u hu => pUp_ne (by omega)), by rw [pUp_ne (by omega)]; exact b⟩
  · by_cases c : k = W
    · subst c
      unfold wtC
      rw [pUp_eq, eo]
      exact Or.inr ⟨ho, C, rfl, h2, by omega, hC, by rw [pUp_eq]; exact eo2, by rw [pUp_ne (by omega)]; exact ht, pUp_eq⟩
    · have q := (h5 k (by omega)).1 (by omega)
      unfold wtC at q ⊢
      rw [pUp_ne c]
      rcases q with q | ⟨q, p, p1, p2, p3, p4, p5, p6, p7⟩
      · exact Or.inl q
      · exact Or.inr ⟨q, p, p1, p2, by omega, p4, by rw [pUp_ne (by omega)]; exact p5, by rw [pUp_ne (by omega)]; exact p6, by rw [pUp_ne (by omega)]; exact p7⟩
/-- it lands -/
theorem ic_land {b0 W : Nat} {w F ty : Nat → Int} {C : Nat} {op : Int} (h : IC b0 (W + 1) (W + 1) w F ty C) (ho : op = 11 ∨ op = 12) (hw : cOp (w W) = op) (hC : C < 1048576) (ht : ty C = -1) : IC b0 W W w (pUp F (w W - op * 1048576).toNat (op * 1048576 + C)) ty C := by
  obtain ⟨h1, h2, h3, ⟨h4, h5⟩, _⟩ := h
  obtain ⟨q, p, p1, p2, p3, p4, p5, p6, p7⟩ := ((h5 W (by omega)).1 (by omega)).resolve_left (by omega)
  rw [hw] at p1 p5
  have ep : (w W - op * 1048576).toNat = p := by omega
  rw [ep]
  have eo : cOp (op * 1048576 + (C : Int)) = op := by unfold cOp; omega
  have ea : cAr (op * 1048576 + (C : Int)) = C := by unfold cAr; omega
  refine ⟨fun i hi hC' => ?_, h2, h3, ⟨Nat.le_refl _, fun k hk => ⟨fun _ => ?_, fun hb => absurd hb (by omega)⟩⟩, fun k a b => absurd a (by omega)⟩
  · obtain ⟨a, b⟩ := h1 i hi hC'
    refine ⟨?_, b⟩
    by_cases c : i = p
    · subst c
      unfold tyOk
      rw [pUp_eq, eo, ea]
      exact Or.inr (Or.inr (Or.inr (Or.inr ⟨ho, p6, p7, Or.inr ⟨C, rfl, p3, Nat.le_refl _, ht⟩⟩)))
    · refine tyOk_same a (pUp_ne c) rfl rfl (fun ⟨k, k1, k2, k3⟩ => ?_) (Nat.le_refl _) (fun _ _ => rfl)
      by_cases ck : k = W
      · rw [ck, hw] at k3
        exact absurd (show i = p by omega) c
      · exact ⟨k, by omega, k2, k3⟩
  · rcases (h5 k (by omega)).1 (by omega) with z | ⟨z, u, u1, u2, u3, u4, u5, u6, u7⟩
    · exact Or.inl z
    · refine Or.inr ⟨z, u, u1, u2, u3, u4, ?_, u6, u7⟩
      by_cases c : u = p
      · rw [c, pUp_eq, eo]
        rw [c, p5] at u5
        exact u5
      · rw [pUp_ne c]
        exact u5
/-- how many signs may wait -/
theorem arN_le {w : Nat → Int} {b : Nat} {W : Nat} (hv : ∀ k, b ≤ k → k < W → isAr (w k) = true ∨ cOp (w k) = 14) (ha : ∀ k, b ≤ k → k + 1 < W → isAr (w k) = true → isAr (w (k + 1)) = true → cOp (w k) ≤ 3 ∧ 4 ≤ cOp (w (k + 1))) : ∀ k, k ≤ W → arN w b k ≤ 2 * opN w k + 2 ∧ (b < k → isAr (w (k - 1)) = true → cOp (w (k - 1)) ≤ 3 → arN w b k ≤ 2 * opN w k + 1) ∧ (b < k → cOp (w (k - 1)) = 14 → arN w b k ≤ 2 * opN w k) ∧ (k ≤ b → arN w b k = 0)
  | 0, _ => ⟨by unfold arN; omega, fun h => absurd h (by omega), fun h => absurd h (by omega), fun _ => rfl⟩
  | k + 1, hk => by
    obtain ⟨h1, h2, h3, h4⟩ := arN_le hv ha k (by omega)
    have e0 : k + 1 - 1 = k := by omega
    rw [e0]
    unfold arN opN
    by_cases hb : b ≤ k
    · rcases hv k hb (by omega) with q | q
      · have qo : ¬ (cOp (w k) = 10 ∨ cOp (w k) = 13 ∨ cOp (w k) = 14) := by
          unfold isAr at q
          rw [Bool.and_eq_true, decide_eq_true_iff, decide_eq_true_iff] at q
          omega
        rw [if_pos ⟨hb, q⟩, if_neg qo]
        have prev : b < k → (isAr (w (k - 1)) = true ∨ cOp (w (k - 1)) = 14) := fun hbk => hv (k - 1) (by omega) (by omega)
        have adj : b < k → isAr (w (k - 1)) = true → cOp (w (k - 1)) ≤ 3 ∧ 4 ≤ cOp (w k) := fun hbk hp => by
          have z := ha (k - 1) (by omega) (by omega) hp
          rw [show k - 1 + 1 = k by omega] at z
          exact z q
        refine ⟨?_, fun _ _ h3' => ?_, fun _ h14 => ?_, fun h => absurd h (by omega)⟩
        · by_cases c : b < k
          · rcases prev c with p | p
            · have z := h2 c p (adj c p).1
              omega
            · have z := h3 c p
              omega
          · have z := h4 (by omega)
            omega
        · by_cases c : b < k
          · rcases prev c with p | p
            · have z := adj c p
              omega
            · have z := h3 c p
              omega
          · have z := h4 (by omega)
            omega
        · unfold isAr at q
          rw [Bool.and_eq_true, decide_eq_true_iff, decide_eq_true_iff] at q
          omega
      · have qa : ¬ (b ≤ k ∧ isAr (w k) = true) := by
          intro z
          have z := z.2
          unfold isAr at z
          rw [Bool.and_eq_true, decide_eq_true_iff, decide_eq_true_iff] at z
          omega
        rw [if_neg qa, if_pos (Or.inr (Or.inr q))]
        refine ⟨by omega, fun _ z _ => absurd ⟨hb, z⟩ qa, fun _ _ => by omega, fun h => absurd h (by omega)⟩
    · rw [if_neg (fun z => hb z.1)]
      have z := h4 (by omega)
      rw [z]
      refine ⟨by omega, fun h => absurd h (by omega), fun h => absurd h (by omega), fun _ => rfl⟩
def ITc (sp : Bool) (b0 : Nat) (ty : Nat → Int) (c : CF) : Prop :=
  IC b0 (tyBc c) c.2.2.2.1.2.2.2 c.2.2.2.2.2 c.2.2.2.2.1 ty c.2.2.2.1.2.2.1 ∧ ty c.2.2.2.1.2.2.1 = tyC c ∧
  (c.2.2.2.1.2.1 = (opN c.2.2.2.2.2 c.2.2.2.1.2.2.2 : Int) ∧ c.2.2.2.1.2.1 ≤ 6) ∧
  ((sp = true ∧ (c.1 = 0 ∨ c.1 = 1) ∧ c.2.1 = 0 ∧ c.2.2.1 = 0) ∨ (sp = false ∧ (0 < tyBc c ∧ cOp (c.2.2.2.2.2 0) = 13) ∧ (c.1 ≤ 1 → c.2.2.1 = 1 ∨ c.2.2.1 = 7 ∨ c.2.2.1 = 8 ∨ c.2.2.1 = 9)))
theorem tyC_le {sp : Bool} {b0 : Nat} {ty : Nat → Int} {c : CF} (h : ITc sp b0 ty c) : tyC c ≤ 16 := by
  obtain ⟨⟨_, _, _, ⟨h5, h6⟩, h7⟩, _, ⟨h8, h9⟩, _⟩ := h
  unfold tyC
  by_cases c0 : c.1 = 0
  · have eb : tyBc c = c.2.1 := by unfold tyBc; rw [if_pos (Or.inl c0)]
    rw [eb] at h6 h7
    have z := (arN_le (b := c.2.1) (fun k a b => (h6 k b).2 a) h7 _ (Nat.le_refl _)).1
    rw [if_pos c0]
    split <;> omega
  · rw [if_neg c0]
    by_cases c1 : c.1 = 1
    · have eb : tyBc c = c.2.1 := by unfold tyBc; rw [if_pos (Or.inr c1)]
      rw [eb] at h6 h7
      have z := (arN_le (b := c.2.1) (fun k a b => (h6 k b).2 a) h7 _ (Nat.le_refl _)).1
      rw [if_pos c1]
      split <;> omega
    · rw [if_neg c1]
      split <;> omega
/-! the machine's steps keep it -/
theorem isAr_iff {v : Int} : isAr v = true ↔ 2 ≤ cOp v ∧ cOp v ≤ 6 := by
  unfold isAr
  rw [Bool.and_eq_true, decide_eq_true_iff, decide_eq_true_iff]
theorem opN_same {w w' : Nat → Int} : ∀ {n : Nat}, (∀ k, k < n → w' k = w k) → opN w' n = opN w n
  | 0, _ => rfl
  | n + 1, h => by
    unfold opN
    rw [opN_same (fun k hk => h k (by omega)), h n (by omega)]
theorem arN_same {w w' : Nat → Int} {b : Nat} : ∀ {n : Nat}, (∀ k, k < n → w' k = w k) → arN w' b n = arN w b n
  | 0, _ => rfl
  | n + 1, h => by
    unfold arN
    rw [arN_same (fun k hk => h k (by omega)), h n (by omega)]
theorem opN_push {w : Nat → Int} {n : Nat} {v : Int} : opN (pUp w n v) (n + 1) = opN w n + (if cOp v = 10 ∨ cOp v = 13 ∨ cOp v = 14 then 1 else 0) := by
  show opN (pUp w n v) n + _ = _
  rw [opN_same (fun k hk => pUp_ne (by omega)), pUp_eq]
theorem arN_push {w : Nat → Int} {b n : Nat} {v : Int} : arN (pUp w n v) b (n + 1) = arN w b n + (if b ≤ n ∧ isAr v = true then 1 else 0) := by
  show arN (pUp w n v) b n + _ = _
  rw [arN_same (fun k hk => pUp_ne (by omega)), pUp_eq]
theorem arN_0 {w : Nat → Int} {b : Nat} : ∀ {n : Nat}, n ≤ b → arN w b n = 0
  | 0, _ => rfl
  | n + 1, h => by
    unfold arN
    rw [arN_0 (by omega), if_neg (fun q => by omega)]
/-- a sign is pushed, or a [ -/
theorem ic_push {b0 B W : Nat} {w F ty : Nat → Int} {C : Nat} {v : Int} (h : IC b0 B W w F ty C) (hv : isAr v = true ∨ cOp v = 14) (ha : B < W → isAr (w (W - 1)) = true → isAr v = true → cOp (w (W - 1)) ≤ 3 ∧ 4 ≤ cOp v) : IC b0 B (W + 1) (pUp w W v) F ty C := by
  have h5 := h.2.2.2.1
  have h6 := h.2.2.2.2
  refine ic_wait h (by have := h5.1; omega) (fun k hk => pUp_ne (by have := h5.1; omega)) (fun k hb hk => ?_) (fun k hb hk => ?_)
  · by_cases c : k = W
    · rw [c, pUp_eq]
      exact hv
    · rw [pUp_ne c]
      exact (h5.2 k (by omega)).2 hb
  · rw [pUp_ne (show k ≠ W by omega)]
    by_cases c : k + 1 = W
    · rw [c, pUp_eq]
      have e : k = W - 1 := by omega
      rw [e]
      exact ha (by omega)
    · rw [pUp_ne c]
      exact h6 k hb (by omega)
/-- the top waits no longer -/
theorem ic_pop {b0 B W : Nat} {w F ty : Nat → Int} {C : Nat} (h : IC b0 B (W + 1) w F ty C) (hB : B ≤ W) : IC b0 B W w F ty C :=
  ic_wait h hB (fun _ _ => rfl) (fun k hb hk => (h.2.2.2.1.2 k (by omega)).2 hb) (fun k hb hk => h.2.2.2.2 k hb (by omega))

/-! a call's arguments, a callee's facts -/
section
variable {scr : SG} {σ : Nat → Int} {n : Nat} {M : Mem}
theorem aSs_app : ∀ {A B : List AV} {s t : List Value}, aSs scr σ n A s → aSs scr σ n B t → aSs scr σ n (A ++ B) (s ++ t)
  | [], _, [], _, _, h => h
  | [], _, _ :: _, _, h, _ => h.elim
  | _ :: _, _, [], _, h, _ => h.elim
  | _ :: _, _, _ :: _, _, h, h' => ⟨h.1, aSs_app h.2 h'⟩
theorem aSs_rev : ∀ {A : List AV} {s : List Value}, aSs scr σ n A s → aSs scr σ n A.reverse s.reverse
  | [], [], _ => True.intro
  | [], _ :: _, h => h.elim
  | _ :: _, [], h => h.elim
  | _ :: _, _ :: _, h => by
    rw [List.reverse_cons, List.reverse_cons]
    exact aSs_app (aSs_rev h.2) ⟨h.1, True.intro⟩
theorem aSs_take : ∀ {A : List AV} {s : List Value} (k : Nat), aSs scr σ n A s → aSs scr σ n (A.take k) (s.take k)
  | _, _, 0, _ => by rw [List.take_zero, List.take_zero]; exact True.intro
  | [], [], k + 1, _ => True.intro
  | [], _ :: _, _ + 1, h => h.elim
  | _ :: _, [], _ + 1, h => h.elim
  | _ :: _, _ :: _, k + 1, h => ⟨h.1, aSs_take k h.2⟩
theorem aSs_drop : ∀ {A : List AV} {s : List Value} (k : Nat), aSs scr σ n A s → aSs scr σ n (A.drop k) (s.drop k)
  | _, _, 0, h => h
  | [], [], k + 1, _ => True.intro
  | [], _ :: _, _ + 1, h => h.elim
  | _ :: _, [], _ + 1, h => h.elim
  | _ :: _, _ :: _, k + 1, h => aSs_drop k h.2
theorem aSs_len : ∀ {A : List AV} {s : List Value}, aSs scr σ n A s → A.length = s.length
  | [], [], _ => rfl
  | [], _ :: _, h => h.elim
  | _ :: _, [], h => h.elim
  | _ :: _, _ :: _, h => congrArg (· + 1) (aSs_len h.2)
/-- arguments laid as locals -/
def aArgs : List AV → List AV
  | [] => []
  | v :: r => bif Nat.beq v.1 3 then v :: (0, 0, 0) :: aArgs r else v :: aArgs r
def aNz0 : List AV → Bool
  | [] => true
  | v :: r => bif Nat.beq v.1 0 then false else aNz0 r
theorem aGa_cat {v : AV} {w : Value} (h : aG scr σ n v w) (h0 : Nat.beq v.1 0 = false) : w.category = (bif Nat.beq v.1 3 then 2 else 1) := by
  cases h3 : Nat.beq v.1 3 with
  | true =>
    obtain ⟨k, s, c⟩ := v
    have e := Nat.eq_of_beq_eq_true h3
    dsimp only at e
    subst e
    obtain ⟨x, rfl⟩ := h
    rfl
  | false =>
    obtain ⟨k, s, c⟩ := v
    unfold aG aGk at h
    dsimp only at h h3 h0
    match k, h, h3, h0 with
    | 0, _, _, h0 => cases h0
    | 1, ⟨_, x, e, _⟩, _, _ => rw [e]; rfl
    | 2, ⟨a, e, _⟩, _, _ => rw [e]; rfl
    | 3, _, h3, _ => cases h3
    | 4, h, _, _ => rw [h]; rfl
    | k + 5, ⟨_, e, _⟩, _, _ => rw [e]; rfl
theorem mLd_cons_ne {j k : Nat} {w : Value} {L : MLoc} (h : k ≠ j) : mLd ((k, w) :: L) j = mLd L j := by
  unfold mLd
  have e : (k == j) = false := beq_eq_false_iff_ne.mpr h
  simp only [List.find?_cons, e]
theorem mLd_cons_eq {k : Nat} {w : Value} {L : MLoc} : mLd ((k, w) :: L) k = some w := by
  unfold mLd
  simp only [List.find?_cons, beq_self_eq_true, Option.map_some]
theorem aArgs_ok : ∀ {A : List AV} {as : List Value} {k : Nat}, aSs scr σ n A as → aNz0 A = true → (lg_sl as).length = (aArgs A).length ∧ ∀ (i : Nat) v, (aArgs A)[i]? = some v → v.1 = 0 ∨ ∃ w, mLd (lv_args k as) (k + i) = some w ∧ aG scr σ n v w
  | [], [], _, _, _ => ⟨rfl, fun i v h => by rw [show aArgs [] = [] from rfl, List.getElem?_nil] at h; cases h⟩
  | [], _ :: _, _, h, _ => h.elim
  | _ :: _, [], _, h, _ => h.elim
  | a :: A, w :: as, k, h, hz => by
    unfold aNz0 at hz
    cases h0 : Nat.beq a.1 0 with
    | true => rw [h0] at hz; cases hz
    | false =>
      rw [h0] at hz
      have hc := aGa_cat h.1 h0
      unfold aArgs
      cases h3 : Nat.beq a.1 3 with
      | true =>
        rw [h3] at hc
        have hc : w.category = 2 := hc
        obtain ⟨e1, e2⟩ := aArgs_ok (k := k + 2) h.2 hz
        refine ⟨?_, ?_⟩
        · have : lg_sl (w :: as) = [.val w, .second] ++ lg_sl as := by simp [lg_sl, hc]
          rw [this, List.length_append, e1]
          show 2 + _ = (aArgs A).length + 1 + 1
          omega
        · intro i v hv
          unfold lv_args
          rw [if_pos hc]
          dsimp only [cond_true] at hv
          match i, hv with
          | 0, hv => cases hv; exact Or.inr ⟨w, mLd_cons_eq, h.1⟩
          | 1, hv => cases hv; exact Or.inl rfl
          | i + 2, hv =>
            rw [mLd_cons_ne (by omega)]
            have := e2 i v hv
            rw [show k + 2 + i = k + (i + 2) by omega] at this
            exact this
      | false =>
        rw [h3] at hc
        have hc : w.category = 1 := hc
        have hc2 : ¬ w.category = 2 := by omega
        obtain ⟨e1, e2⟩ := aArgs_ok (k := k + 1) h.2 hz
        refine ⟨?_, ?_⟩
        · have : lg_sl (w :: as) = [.val w] ++ lg_sl as := by simp [lg_sl, hc2]
          rw [this, List.length_append, e1]
          show 1 + _ = (aArgs A).length + 1
          omega
        · intro i v hv
          unfold lv_args
          rw [if_neg hc2]
          dsimp only [cond_false] at hv
          match i, hv with
          | 0, hv => cases hv; exact Or.inr ⟨w, mLd_cons_eq, h.1⟩
          | i + 1, hv =>
            rw [mLd_cons_ne (by omega)]
            have := e2 i v hv
            rw [show k + 1 + i = k + (i + 1) by omega] at this
            exact this
/-- the facts that a callee wants are read first -/
def aPreF : AF → AK → Option AK
  | [], K => some K
  | (g, i, _) :: r, K => bif Nat.ble 1000 g then aPreF r K else bif Nat.ble 2 g && Nat.blt g tEnd && Nat.beq (tGrp g) g && Nat.blt i (tSiz g) then (match aLdF K g i with
    | [o] => aPreF r o.1
    | _ => none) else none
theorem aPreF_ok (hM : aMem scr M) : ∀ {F : AF} {K K' : AK} {σ : Nat → Int}, aK scr σ K M → aPreF F K = some K' → ∃ σ', aExt K.1.length σ σ' ∧ K.1.length ≤ K'.1.length ∧ aK scr σ' K' M
  | [], K, K', σ, h, e => by cases e; exact ⟨σ, aExt.rf, Nat.le_refl _, h⟩
  | (g, i, u) :: r, K, K', σ, h, e => by
    unfold aPreF at e
    cases hgh : Nat.ble 1000 g with
    | true => rw [hgh] at e; exact aPreF_ok hM h e
    | false =>
    rw [hgh] at e
    dsimp only [cond_false] at e
    cases hq : (Nat.ble 2 g && Nat.blt g tEnd && Nat.beq (tGrp g) g && Nat.blt i (tSiz g)) with
    | false => rw [hq] at e; cases e
    | true =>
      rw [hq] at e
      dsimp only [cond_true] at e
      rw [Bool.and_eq_true, Bool.and_eq_true, Bool.and_eq_true] at hq
      have q1 : 2 ≤ g := Nat.le_of_ble_eq_true hq.1.1.1
      have q2 : g < tEnd := Nat.le_of_ble_eq_true hq.1.1.2
      have q3 := Nat.eq_of_beq_eq_true hq.1.2
      have q4 : i < tSiz g := Nat.le_of_ble_eq_true hq.2
      obtain ⟨fs, m1, m2, _⟩ := hM.2.2.1 g q1 q2
      rw [q3] at m2
      have hi : i < fs.length := by omega
      have hw : mSlot M g i = some fs[i] := by rw [mSlot_eq m1]; exact List.getElem?_eq_getElem hi
      obtain ⟨o, o1, σ', o2, o3, o4, _⟩ := aLdF_ok hM h q1 q2 hw
      rw [q3] at o1
      match ho : aLdF K g i, e with
      | [], e => cases e
      | _ :: _ :: _, e => cases e
      | [p], e =>
        rw [ho] at o1
        have ep : o = p := by
          cases List.mem_cons.mp o1 with
          | inl h => exact h
          | inr h => cases h
        subst ep
        obtain ⟨σ'', e1, e2, e3⟩ := aPreF_ok hM o4 e
        exact ⟨σ'', o2.tr e1 o3, Nat.le_trans o3 e2, e3⟩
end

/-! a store into a table -/
theorem yV_put {M : Mem} {t f d tg n : Nat} {x : Int32} (ok : yOk t f d = true) (hd : mHd M (yC t f d) = some (tg, n)) (hi : ySl t f d < n) : yV (mPut M (yC t f d) (ySl t f d) (.int x)) = yUp (yV M) t f d x.toInt := by
  funext t' f' d'
  unfold yUp yV
  cases he : (Nat.beq t' t && Nat.beq f' f && Nat.beq d' d) with
  | true =>
    rw [Bool.and_eq_true, Bool.and_eq_true] at he
    have e1 := Nat.eq_of_beq_eq_true he.1.1
    have e2 := Nat.eq_of_beq_eq_true he.1.2
    have e3 := Nat.eq_of_beq_eq_true he.2
    subst e1; subst e2; subst e3
    rw [ok]
    show vI (mSlot (mPut M _ _ _) _ _) = x.toInt
    rw [mSlot_put_eq hd hi]
    rfl
  | false =>
    cases hq : yOk t' f' d' with
    | false => rfl
    | true =>
      show vI (mSlot (mPut M _ _ _) (yC t' f' d') (ySl t' f' d')) = vI (mSlot M _ _)
      have hn : yC t' f' d' ≠ yC t f d ∨ ySl t' f' d' ≠ ySl t f d := by
        by_cases h1 : yC t' f' d' = yC t f d
        · refine Or.inr (fun h2 => ?_)
          obtain ⟨a, b, c⟩ := yInj ok hq h1 h2
          subst a; subst b; subst c
          rw [Nat.beq_refl, Nat.beq_refl, Nat.beq_refl] at he
          cases he
        · exact Or.inl h1
      rw [mSlot_put_ne hn]
/-- what a table says is there -/
theorem yV_get {M : Mem} {t f d : Nat} {x : Int32} (ok : yOk t f d = true) (h : mSlot M (yC t f d) (ySl t f d) = some (.int x)) : yV M t f d = x.toInt := by
  unfold yV
  rw [ok]
  show vI (mSlot M _ _) = x.toInt
  rw [h]
  rfl
theorem yUp_eq {T : YT} {t f d : Nat} {v : Int} : yUp T t f d v t f d = v := by
  unfold yUp
  rw [Nat.beq_refl, Nat.beq_refl, Nat.beq_refl]
  rfl
theorem yUp_ne {T : YT} {t f d t' f' d' : Nat} {v : Int} (h : t' ≠ t ∨ f' ≠ f ∨ d' ≠ d) : yUp T t f d v t' f' d' = T t' f' d' := by
  unfold yUp
  cases he : (Nat.beq t' t && Nat.beq f' f && Nat.beq d' d) with
  | false => rfl
  | true =>
    rw [Bool.and_eq_true, Bool.and_eq_true] at he
    have e1 := Nat.eq_of_beq_eq_true he.1.1
    have e2 := Nat.eq_of_beq_eq_true he.1.2
    have e3 := Nat.eq_of_beq_eq_true he.2
    omega

/-! what class and reference hold alike: tables of ints, read off the memory -/
/-- the cells of table t: 0 deeds, 1 the reference's, 2 kept deeds, 3 the reference's, 4 sends, 5 on the way, 6 days of death, 7 the reference's, 8 and 9 the kept seeds -/
def rA (f : Nat) : Nat := bif Nat.ble f 5 then 185 + f else bif Nat.beq f 6 then 194 else 184 + f
def kA (f : Nat) : Nat := bif Nat.ble f 5 then 227 + f else bif Nat.beq f 6 then 241 else 226 + f
def yC (t f d : Nat) : Nat := match t with
  | 0 => 10 + d
  | 1 => rA f
  | 2 => 53 + d
  | 3 => kA f
  | 4 => 222
  | 5 => 180
  | 6 => 4
  | 7 => 182
  | 8 => 2
  | _ => 181
def ySl (t f d : Nat) : Nat := match t with
  | 0 => f
  | 1 => d
  | 2 => f
  | 3 => d
  | 4 => d
  | 5 => d
  | 6 => d
  | 7 => d
  | 8 => 12
  | _ => 68
/-- how far a table goes -/
def yOk (t f d : Nat) : Bool := match t with
  | 0 => Nat.blt f 10 && Nat.blt d 40
  | 1 => Nat.blt f 10 && Nat.blt d 40
  | 2 => Nat.blt f 10 && Nat.blt d 40
  | 3 => Nat.blt f 10 && Nat.blt d 40
  | 4 => Nat.beq f 0 && Nat.blt d 4
  | 5 => Nat.beq f 0 && Nat.blt d 4
  | 6 => Nat.beq f 0 && Nat.blt d 10
  | 7 => Nat.beq f 0 && Nat.blt d 10
  | 8 => Nat.beq f 0 && Nat.beq d 0
  | 9 => Nat.beq f 0 && Nat.beq d 0
  | _ => false
def vI (w : Option Value) : Int := match w with
  | some (.int x) => x.toInt
  | _ => 0
abbrev YT : Type := Nat → Nat → Nat → Int
def yV (M : Mem) : YT := fun t f d => bif yOk t f d then vI (mSlot M (yC t f d) (ySl t f d)) else 0
def yUp (T : YT) (t f d : Nat) (v : Int) : YT := fun t' f' d' => bif Nat.beq t' t && Nat.beq f' f && Nat.beq d' d then v else T t' f' d'
/-- the table of a cell, its row, its column -/
def yInv (c i : Nat) : Nat × Nat × Nat :=
  bif Nat.ble 10 c && Nat.ble c 49 then (0, i, c - 10)
  else bif Nat.ble 53 c && Nat.ble c 92 then (2, i, c - 53)
  else bif Nat.ble 185 c && Nat.ble c 190 then (1, c - 185, i)
  else bif Nat.beq c 194 then (1, 6, i)
  else bif Nat.ble 191 c && Nat.ble c 193 then (1, c - 184, i)
  else bif Nat.ble 227 c && Nat.ble c 232 then (3, c - 227, i)
  else bif Nat.beq c 241 then (3, 6, i)
  else bif Nat.ble 233 c && Nat.ble c 235 then (3, c - 226, i)
  else bif Nat.beq c 222 then (4, 0, i)
  else bif Nat.beq c 180 then (5, 0, i)
  else bif Nat.beq c 4 then (6, 0, i)
  else bif Nat.beq c 182 then (7, 0, i)
  else bif Nat.beq c 2 then (8, 0, 0)
  else (9, 0, 0)
theorem rA_inv : ∀ f, f < 10 → ∀ i, yInv (rA f) i = (1, f, i) := by
  intro f hf i
  have h : f = 0 ∨ f = 1 ∨ f = 2 ∨ f = 3 ∨ f = 4 ∨ f = 5 ∨ f = 6 ∨ f = 7 ∨ f = 8 ∨ f = 9 := by omega
  rcases h with rfl | rfl | rfl | rfl | rfl | rfl | rfl | rfl | rfl | rfl <;> rfl
theorem kA_inv : ∀ f, f < 10 → ∀ i, yInv (kA f) i = (3, f, i) := by
  intro f hf i
  have h : f = 0 ∨ f = 1 ∨ f = 2 ∨ f = 3 ∨ f = 4 ∨ f = 5 ∨ f = 6 ∨ f = 7 ∨ f = 8 ∨ f = 9 := by omega
  rcases h with rfl | rfl | rfl | rfl | rfl | rfl | rfl | rfl | rfl | rfl <;> rfl
theorem ble_of {a b : Nat} (h : a ≤ b) : Nat.ble a b = true := Nat.ble_eq_true_of_le h
theorem ble_no {a b : Nat} (h : b < a) : Nat.ble a b = false := by
  cases hq : Nat.ble a b with
  | false => rfl
  | true => have := Nat.le_of_ble_eq_true hq; omega
theorem bAnd {a b : Bool} (h : (a && b) = true) : a = true ∧ b = true := by
  rw [Bool.and_eq_true] at h; exact h
theorem yOk_fd {t f d : Nat} (h : yOk t f d = true) : f < 10 ∧ d < 40 ∧ t < 10 ∧ (4 ≤ t → f = 0) ∧ (8 ≤ t → d = 0) := by
  unfold yOk at h
  match t, h with
  | 0, h => have h := bAnd (show (Nat.blt f 10 && Nat.blt d 40) = true from h); exact ⟨Nat.le_of_ble_eq_true h.1, Nat.le_of_ble_eq_true h.2, by omega, by omega, by omega⟩
  | 1, h => have h := bAnd (show (Nat.blt f 10 && Nat.blt d 40) = true from h); exact ⟨Nat.le_of_ble_eq_true h.1, Nat.le_of_ble_eq_true h.2, by omega, by omega, by omega⟩
  | 2, h => have h := bAnd (show (Nat.blt f 10 && Nat.blt d 40) = true from h); exact ⟨Nat.le_of_ble_eq_true h.1, Nat.le_of_ble_eq_true h.2, by omega, by omega, by omega⟩
  | 3, h => have h := bAnd (show (Nat.blt f 10 && Nat.blt d 40) = true from h); exact ⟨Nat.le_of_ble_eq_true h.1, Nat.le_of_ble_eq_true h.2, by omega, by omega, by omega⟩
  | 4, h => have h := bAnd (show (Nat.beq f 0 && Nat.blt d 4) = true from h); have a := Nat.eq_of_beq_eq_true h.1; have b : d < 4 := Nat.le_of_ble_eq_true h.2; exact ⟨by omega, by omega, by omega, fun _ => a, by omega⟩
  | 5, h => have h := bAnd (show (Nat.beq f 0 && Nat.blt d 4) = true from h); have a := Nat.eq_of_beq_eq_true h.1; have b : d < 4 := Nat.le_of_ble_eq_true h.2; exact ⟨by omega, by omega, by omega, fun _ => a, by omega⟩
  | 6, h => have h := bAnd (show (Nat.beq f 0 && Nat.blt d 10) = true from h); have a := Nat.eq_of_beq_eq_true h.1; have b : d < 10 := Nat.le_of_ble_eq_true h.2; exact ⟨by omega, by omega, by omega, fun _ => a, by omega⟩
  | 7, h => have h := bAnd (show (Nat.beq f 0 && Nat.blt d 10) = true from h); have a := Nat.eq_of_beq_eq_true h.1; have b : d < 10 := Nat.le_of_ble_eq_true h.2; exact ⟨by omega, by omega, by omega, fun _ => a, by omega⟩
  | 8, h => have h := bAnd (show (Nat.beq f 0 && Nat.beq d 0) = true from h); have a := Nat.eq_of_beq_eq_true h.1; have b := Nat.eq_of_beq_eq_true h.2; exact ⟨by omega, by omega, by omega, fun _ => a, fun _ => b⟩
  | 9, h => have h := bAnd (show (Nat.beq f 0 && Nat.beq d 0) = true from h); have a := Nat.eq_of_beq_eq_true h.1; have b := Nat.eq_of_beq_eq_true h.2; exact ⟨by omega, by omega, by omega, fun _ => a, fun _ => b⟩
theorem yInv_ok {t f d : Nat} (h : yOk t f d = true) : yInv (yC t f d) (ySl t f d) = (t, f, d) := by
  obtain ⟨hf, hd, ht, h4, h8⟩ := yOk_fd h
  match t, ht, h4, h8 with
  | 0, _, _, _ =>
    show yInv (10 + d) f = (0, f, d)
    unfold yInv
    rw [ble_of (show 10 ≤ 10 + d by omega), ble_of (show 10 + d ≤ 49 by omega), show 10 + d - 10 = d by omega]
    rfl
  | 1, _, _, _ => exact rA_inv f hf d
  | 2, _, _, _ =>
    show yInv (53 + d) f = (2, f, d)
    unfold yInv
    rw [ble_no (show 49 < 53 + d by omega), ble_of (show 53 ≤ 53 + d by omega), ble_of (show 53 + d ≤ 92 by omega), show 53 + d - 53 = d by omega, Bool.and_false]
    rfl
  | 3, _, _, _ => exact kA_inv f hf d
  | 4, _, h4, _ => have e := h4 (by omega); subst e; rfl
  | 5, _, h4, _ => have e := h4 (by omega); subst e; rfl
  | 6, _, h4, _ => have e := h4 (by omega); subst e; rfl
  | 7, _, h4, _ => have e := h4 (by omega); subst e; rfl
  | 8, _, h4, h8 => have e := h4 (by omega); have e2 := h8 (by omega); subst e; subst e2; rfl
  | 9, _, h4, h8 => have e := h4 (by omega); have e2 := h8 (by omega); subst e; subst e2; rfl
theorem yInj {t f d t' f' d' : Nat} (h : yOk t f d = true) (h' : yOk t' f' d' = true) (hc : yC t' f' d' = yC t f d) (hs : ySl t' f' d' = ySl t f d) : t' = t ∧ f' = f ∧ d' = d := by
  have e := yInv_ok h
  have e' := yInv_ok h'
  rw [hc, hs, e] at e'
  cases e'
  exact ⟨rfl, rfl, rfl⟩

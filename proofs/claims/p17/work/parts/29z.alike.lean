/-! deeds that class and reference hold alike; the ghosts from 1030 on, counted from 0 -/
def gS (γ : Gh) : Gh := fun g i => γ (g + 1030) i
def Gi (γ : Gh) (g i : Nat) : Int := (γ g i).toInt
def yRel (f : Nat) (a b : Int) : Prop := if f = 7 then (a = 1000000 ∧ b = -1) ∨ (a = b ∧ 0 ≤ a ∧ a ≤ 1006) else a = b
def yLk (C R : Nat → Int) : Prop := (∀ f, f < 10 → yRel f (C f) (R f)) ∧ (C 7 = 1000000 → C 8 = -1 ∧ C 9 = 0) ∧ (C 7 ≠ 1000000 → 0 ≤ C 8)
def yAll (n : Int) (T : YT) : Prop := ∀ d : Nat, (d : Int) < n → yLk (fun f => T 0 f d) (fun f => T 1 f d)
/-- one deed is open -/
def yP1 (γ : Gh) (T : YT) (n e : Int) : Prop := (0 ≤ e ∧ e < 40) ∧ (∀ d : Nat, (d : Int) < n → (d : Int) ≠ e → yLk (fun f => T 0 f d) (fun f => T 1 f d)) ∧ ∀ f, f < 10 → T 0 f e.toNat = Gi γ 1 f ∧ T 1 f e.toNat = Gi γ 2 f
/-- makes has read -/
def yP2 (γ : Gh) (T : YT) (n : Int) : Prop := yAll n T ∧ ∀ q, q < 3 → 0 ≤ Gi γ 4 (4 + q) → 0 ≤ Gi γ 4 (1 + q) → T 1 6 (Gi γ 4 (1 + q)).toNat = Gi γ 4 (4 + q)
/-- makes has forged -/
def yP5 (γ : Gh) (T : YT) (n : Int) : Prop := (∀ d : Nat, (d : Int) < n → yLk (fun f => T 0 f d) (fun f => if f = 6 then T 0 6 d else T 1 f d)) ∧ (∀ d : Nat, (d : Int) < n → (∀ q, q < 3 → (d : Int) ≠ Gi γ 4 (1 + q)) → T 1 6 d = T 0 6 d) ∧ ∀ q, q < 3 → 0 ≤ Gi γ 4 (4 + q) → 0 ≤ Gi γ 4 (1 + q) → Gi γ 4 (1 + q) < n → T 0 6 (Gi γ 4 (1 + q)).toNat = Gi γ 4 (4 + q)
/-- those that can be sent, reference -/
def yP8 (γ : Gh) (T : YT) (n : Int) : Prop := yAll n T ∧ 0 ≤ Gi γ 5 3 ∧ (Gi γ 5 3 ≤ 4 → ∀ k : Nat, (k : Int) < Gi γ 5 3 → 0 ≤ T 4 0 k ∧ T 4 0 k < n ∧ T 1 7 (T 4 0 k).toNat = -1) ∧ (0 ≤ Gi γ 5 4 → Gi γ 5 4 < n ∧ T 1 7 (Gi γ 5 4).toNat = -1)
/-- on their way, reference -/
def yP6 (γ : Gh) (T : YT) (n : Int) : Prop := (0 ≤ Gi γ 5 3 ∧ Gi γ 5 3 ≤ 4 ∧ 0 ≤ Gi γ 5 0) ∧ (∀ k : Nat, (k : Int) < Gi γ 5 3 → (0 ≤ T 4 0 k ∧ T 4 0 k < n) ∧ T 0 7 (T 4 0 k).toNat = 1000000 ∧ T 0 8 (T 4 0 k).toNat = -1) ∧
  (∀ d : Nat, (d : Int) < n → (∀ f, f < 10 → f ≠ 7 → f ≠ 8 → T 0 f d = T 1 f d) ∧ ((T 0 7 d = 1000000 → T 0 8 d = -1 ∧ T 0 9 d = 0) ∧ (T 0 7 d ≠ 1000000 → 0 ≤ T 0 8 d)) ∧ ((yRel 7 (T 0 7 d) (T 1 7 d) ∧ T 0 8 d = T 1 8 d) ∨ ∃ k : Nat, Gi γ 5 0 ≤ k ∧ (k : Int) < Gi γ 5 3 ∧ T 4 0 k = d)) ∧
  ((0 ≤ Gi γ 5 1 → 0 ≤ Gi γ 5 2) ∧ (0 ≤ Gi γ 5 2 → Gi γ 5 2 < Gi γ 5 3 ∧ T 4 0 (Gi γ 5 2).toNat = Gi γ 5 1)) ∧ (Gi γ 5 5 = 1 → Gi γ 5 0 < Gi γ 5 3 → T 1 7 (T 4 0 (Gi γ 5 0).toNat).toNat = -1)
/-- those that can be sent, class -/
def yP9 (γ : Gh) (T : YT) (n : Int) : Prop := yAll n T ∧ (0 ≤ Gi γ 14 3 ∧ Gi γ 14 3 ≤ 4) ∧ ∀ k : Nat, (k : Int) < Gi γ 14 3 → 0 ≤ T 5 0 k ∧ T 5 0 k < n ∧ T 0 7 (T 5 0 k).toNat = 1000000
/-- on their way, class -/
def yP7 (γ : Gh) (T : YT) (n : Int) : Prop := (0 ≤ Gi γ 14 3 ∧ Gi γ 14 3 ≤ 4 ∧ 0 ≤ Gi γ 14 0) ∧ (∀ k : Nat, (k : Int) < Gi γ 14 3 → (0 ≤ T 5 0 k ∧ T 5 0 k < n) ∧ T 1 7 (T 5 0 k).toNat = -1 ∧ T 1 8 (T 5 0 k).toNat = -1 ∧ T 1 9 (T 5 0 k).toNat = 0) ∧
  (∀ d : Nat, (d : Int) < n → (∀ f, f < 7 → T 0 f d = T 1 f d) ∧ ((yRel 7 (T 0 7 d) (T 1 7 d) ∧ T 0 8 d = T 1 8 d ∧ T 0 9 d = T 1 9 d ∧ ((T 0 7 d = 1000000 → T 0 8 d = -1 ∧ T 0 9 d = 0) ∧ (T 0 7 d ≠ 1000000 → 0 ≤ T 0 8 d))) ∨ ∃ k : Nat, Gi γ 14 0 ≤ k ∧ (k : Int) < Gi γ 14 3 ∧ T 5 0 k = d)) ∧
  ((0 ≤ Gi γ 14 1 → 0 ≤ Gi γ 14 2) ∧ (0 ≤ Gi γ 14 2 → Gi γ 14 2 < Gi γ 14 3 ∧ T 5 0 (Gi γ 14 2).toNat = Gi γ 14 1)) ∧ (1 ≤ Gi γ 14 4 → Gi γ 14 0 < Gi γ 14 3 → T 0 7 (T 5 0 (Gi γ 14 0).toNat).toNat = 1000000) ∧ (2 ≤ Gi γ 14 4 → Gi γ 14 0 < Gi γ 14 3 → T 0 8 (T 5 0 (Gi γ 14 0).toNat).toNat = -1)
/-- the arrays in the order in which they are copied -/
def yPf (p : Nat) : Nat := bif Nat.ble p 5 then p else p + 1
def yCp (T : YT) (a b : Nat) (kp kq : Int) : Prop := (∀ p : Nat, p < 9 → (p : Int) < kp → ∀ d, d < 40 → T a (yPf p) d = T b (yPf p) d) ∧ ∀ d : Nat, d < 40 → (d : Int) < kq → T a 6 d = T b 6 d
/-- the kept deeds are laid anew -/
def yP10 (γ : Gh) (T : YT) (n : Int) : Prop := yAll n T ∧ (∀ d : Nat, (d : Int) < n → ∀ f, f < 10 → T 2 f d = T 0 f d) ∧ yCp T 3 1 (Gi γ 8 2) (Gi γ 8 3)
/-- the deeds are laid anew -/
def yP11 (γ : Gh) (T : YT) (nk : Int) : Prop := (∀ d : Nat, (d : Int) < nk → ∀ f, f < 10 → T 0 f d = T 2 f d) ∧ yCp T 1 3 (Gi γ 8 2) (Gi γ 8 3)
def yP (o : Nat) (γ : Gh) (T : YT) : Prop := match o with
  | 0 => yAll (Gi γ 0 0) T
  | 1 => yP1 γ T (Gi γ 0 0) (Gi γ 0 1)
  | 2 => yP2 γ T (Gi γ 0 0)
  | 5 => yP5 γ T (Gi γ 0 0)
  | 6 => yP6 γ T (Gi γ 0 0)
  | 7 => yP7 γ T (Gi γ 0 0)
  | 8 => yP8 γ T (Gi γ 0 0)
  | 9 => yP9 γ T (Gi γ 0 0)
  | 10 => yP10 γ T (Gi γ 0 0)
  | 11 => yP11 γ T (Gi γ 8 1)
  | _ => False
def yK (γ : Gh) (T : YT) : Prop := Gi γ 0 2 ≠ 10 → ∀ d : Nat, (d : Int) < Gi γ 8 1 → yLk (fun f => T 2 f d) (fun f => T 3 f d)
/-- pages as bits; the mule's next seed and day -/
def pgI (a b c : Int32) : Int32 := ((1 <<< (a &&& 31)) ||| (1 <<< (b &&& 31))) ||| (1 <<< (c &&& 31))
def lcI (x : Int32) : Int32 := (25173 * x + 13849) - (25173 * x + 13849) / 65536 * 65536
def mdI (d x : Int32) : Int32 := (d + 1) + (x - x / 7 * 7)
def yM (γ : Gh) : Prop := γ 6 3 = pgI (γ 6 0) (γ 6 1) (γ 6 2) ∧ γ 7 1 = lcI (γ 7 0) ∧ γ 7 2 = mdI (γ 7 3) (γ 7 1)
/-- the kept seeds -/
def yS (γ : Gh) (T : YT) : Prop := Gi γ 9 0 = 1 → T 8 0 0 = T 9 0 0
/-- days of death -/
def yE (γ : Gh) (T : YT) : Prop := (∀ p : Nat, p < 10 → (Gi γ 15 0 = 0 ∨ (p : Int) ≠ Gi γ 15 1) → T 6 0 p = T 7 0 p) ∧ (Gi γ 15 0 = 1 → (0 ≤ Gi γ 15 1 ∧ Gi γ 15 1 < 10) ∧ T 6 0 (Gi γ 15 1).toNat = Gi γ 15 2 ∧ T 7 0 (Gi γ 15 1).toNat = Gi γ 15 3)
def y9 (γ : Gh) (T : YT) : Prop := ((0 ≤ Gi γ 0 0 ∧ Gi γ 0 0 ≤ 40) ∧ 0 ≤ Gi γ 8 1 ∧ Gi γ 8 1 ≤ 40) ∧ (∃ o : Nat, Gi γ 0 2 = o ∧ yP o γ T) ∧ yK γ T ∧ yM γ ∧ yS γ T ∧ yE γ T
def yT (M : Mem) : Prop := ∀ d, d < 40 → mSlot M 8 d = some (.ref (10 + d)) ∧ mSlot M 51 d = some (.ref (53 + d))
def x9 (γ : Gh) (M : Mem) : Prop := yT M ∧ y9 (gS γ) (yV M)
theorem grp10 : ∀ d, d < 40 → tGrp (10 + d) = 10 := by decide
theorem grp53 : ∀ d, d < 40 → tGrp (53 + d) = 53 := by decide
theorem yPro {t f d : Nat} (h : yOk t f d = true) : tPro (tGrp (yC t f d)) (aSlK (yC t f d) (ySl t f d)) = true := by
  obtain ⟨hf, hd, ht, h4, h8⟩ := yOk_fd h
  match t, ht, h4, h8 with
  | 0, _, _, _ =>
    show tPro (tGrp (10 + d)) (aSlK (10 + d) f) = true
    rw [grp10 d hd]; rfl
  | 1, _, _, _ =>
    have e : f = 0 ∨ f = 1 ∨ f = 2 ∨ f = 3 ∨ f = 4 ∨ f = 5 ∨ f = 6 ∨ f = 7 ∨ f = 8 ∨ f = 9 := by omega
    rcases e with rfl | rfl | rfl | rfl | rfl | rfl | rfl | rfl | rfl | rfl <;> rfl
  | 2, _, _, _ =>
    show tPro (tGrp (53 + d)) (aSlK (53 + d) f) = true
    rw [grp53 d hd]; rfl
  | 3, _, _, _ =>
    have e : f = 0 ∨ f = 1 ∨ f = 2 ∨ f = 3 ∨ f = 4 ∨ f = 5 ∨ f = 6 ∨ f = 7 ∨ f = 8 ∨ f = 9 := by omega
    rcases e with rfl | rfl | rfl | rfl | rfl | rfl | rfl | rfl | rfl | rfl <;> rfl
  | 4, _, _, _ => rfl
  | 5, _, _, _ => rfl
  | 6, _, _, _ => rfl
  | 7, _, _, _ => rfl
  | 8, _, _, _ => rfl
  | 9, _, _, _ => rfl
theorem yV_same {M M' : Mem} (h : ∀ t f d, yOk t f d = true → mSlot M' (yC t f d) (ySl t f d) = mSlot M (yC t f d) (ySl t f d)) : yV M' = yV M := by
  funext t f d
  unfold yV
  cases hq : yOk t f d with
  | false => rfl
  | true =>
    show vI (mSlot M' _ _) = vI (mSlot M _ _)
    rw [h t f d hq]
theorem x9_same {γ : Gh} {M M' : Mem} (h : ∀ c i, tPro (tGrp c) (aSlK c i) = true → mSlot M' c i = mSlot M c i) (hx : x9 γ M) : x9 γ M' := by
  refine ⟨fun d hd => ?_, ?_⟩
  · have a := hx.1 d hd
    rw [h 8 d rfl, h 51 d rfl]
    exact a
  · have e := yV_same (M := M) (M' := M') (fun t f d hq => h _ _ (yPro hq))
    rw [e]
    exact hx.2

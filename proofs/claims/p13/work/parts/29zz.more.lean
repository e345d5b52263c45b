/-! what else is alike, or stands for good: strips; the cells that hold references -/
def q10 (g : Nat) : Bool := Nat.beq g 5 || Nat.beq g 6 || Nat.beq g 183 || Nat.beq g 184 || Nat.beq g 129 || Nat.beq g 99 || Nat.beq g 142 || Nat.beq g 8 || Nat.beq g 128 || Nat.beq g 202 || Nat.beq g 1020
def yT8 (M : Mem) : Prop := ∀ e, e < 40 → mSlot M 8 e = some (.ref (10 + e))
/-- references that stand for good: deeds, laws, rows -/
def Rf (M : Mem) : Prop := yT8 M ∧ (∀ k, k < 3 → mSlot M 129 k = some (.ref (152 + 6 * k))) ∧ (∀ p, p < 10 → mSlot M 99 p = some (.ref (100 + p))) ∧ ∀ i, i < 8 → mSlot M 142 i = some (.ref (143 + i))
/-- strips: whose they are at first, under which law -/
def xS (M : Mem) : Prop := ∀ s, s < 8 → mSlot M 5 s = mSlot M 183 s ∧ mSlot M 6 s = mSlot M 184 s
/-- the tape's bytes are alike, as many as the ghost says -/
def xT (γ : Gh) (M : Mem) : Prop := ∀ k : Nat, (k : Int) < (γ 1020 0).toInt → ∃ x y : Int32, mSlot M 128 k = some (.int x) ∧ mSlot M 202 k = some (.int y) ∧ x = y &&& (255 : Int32)
def x10 (γ : Gh) (M : Mem) : Prop := Rf M ∧ xS M ∧ xT γ M
def xx (γ : Gh) (M : Mem) : Prop := x9 γ M ∧ x10 γ M
theorem x10_same {γ : Gh} {M M' : Mem} (h : ∀ c i, tPro (tGrp c) (aSlK c i) = true → mSlot M' c i = mSlot M c i) (hx : x10 γ M) : x10 γ M' :=
  ⟨⟨fun e he => (h 8 e rfl).trans (hx.1.1 e he), fun k hk => (h 129 k rfl).trans (hx.1.2.1 k hk), fun p hp => (h 99 p rfl).trans (hx.1.2.2.1 p hp), fun i hi => (h 142 i rfl).trans (hx.1.2.2.2 i hi)⟩,
    fun s hs => ⟨by rw [h 5 s rfl, h 183 s rfl]; exact (hx.2.1 s hs).1, by rw [h 6 s rfl, h 184 s rfl]; exact (hx.2.1 s hs).2⟩, fun k hk => by rw [h 128 k rfl, h 202 k rfl]; exact hx.2.2 k hk⟩
theorem xx_same {γ : Gh} {M M' : Mem} (h : ∀ c i, tPro (tGrp c) (aSlK c i) = true → mSlot M' c i = mSlot M c i) (hx : xx γ M) : xx γ M' := ⟨x9_same h hx.1, x10_same h hx.2⟩

/-! what else is alike, or stands for good: strips; the cells that hold references -/
/-- the market's cells -/
def qK (g : Nat) : Bool := Nat.beq g 139 || Nat.beq g 140 || Nat.beq g 141 || Nat.beq g 143 || Nat.beq g 223 || Nat.beq g 224 || Nat.beq g 225 || Nat.beq g 226
def q10 (g i : Nat) : Bool := Nat.beq g 5 || Nat.beq g 6 || Nat.beq g 183 || Nat.beq g 184 || Nat.beq g 129 || Nat.beq g 99 || Nat.beq g 142 || Nat.beq g 8 || Nat.beq g 128 || Nat.beq g 202 || Nat.beq g 1020 || qK g || (Nat.beq g 181 && Nat.beq i 59)
/-- the programs' cells, and the ghost that says whether they are alike -/
def q11 (g i : Nat) : Bool := tProP g i || (Nat.ble 209 g && Nat.ble g 214) || Nat.beq g 1021
def yT8 (M : Mem) : Prop := ∀ e, e < 40 → mSlot M 8 e = some (.ref (10 + e))
/-- references that stand for good: deeds, laws, rows -/
def Rf (M : Mem) : Prop := yT8 M ∧ (∀ k, k < 3 → mSlot M 129 k = some (.ref (152 + 6 * k))) ∧ (∀ p, p < 10 → mSlot M 99 p = some (.ref (100 + p))) ∧ ∀ i, i < 8 → mSlot M 142 i = some (.ref (143 + i))
/-- strips: whose they are at first, under which law -/
def xS (M : Mem) : Prop := ∀ s, s < 8 → mSlot M 5 s = mSlot M 183 s ∧ mSlot M 6 s = mSlot M 184 s
/-- the tape's bytes are alike, as many as the ghost says -/
def xT (γ : Gh) (M : Mem) : Prop := ∀ k : Nat, (k : Int) < (γ 1020 0).toInt → ∃ x y : Int32, mSlot M 128 k = some (.int x) ∧ mSlot M 202 k = some (.int y) ∧ x = y &&& (255 : Int32)
def qP (c i : Nat) : Bool := tProP c i || (Nat.ble 209 c && Nat.ble c 214)
theorem qP_pro {c i : Nat} (h : qP c i = true) : tPro (tGrp c) (aSlK c i) = true ∧ 2 ≤ c ∧ c < tEnd ∧ q11 (tGrp c) (aSlK c i) = true := by
  have q : ((c = 152 ∨ c = 158 ∨ c = 164) ∧ i = 5) ∨ (c = 153 ∨ c = 154 ∨ c = 155 ∨ c = 156 ∨ c = 159 ∨ c = 160 ∨ c = 161 ∨ c = 162 ∨ c = 165 ∨ c = 166 ∨ c = 167 ∨ c = 168) ∨ (c = 209 ∨ c = 210 ∨ c = 211 ∨ c = 212 ∨ c = 213 ∨ c = 214) := by
    simp only [qP, tProP, Bool.or_eq_true, Bool.and_eq_true, Nat.beq_eq, Nat.ble_eq] at h
    omega
  rcases q with ⟨q, rfl⟩ | q | q
  · rcases q with rfl | rfl | rfl <;> exact ⟨rfl, by decide, by decide, rfl⟩
  · rcases q with rfl | rfl | rfl | rfl | rfl | rfl | rfl | rfl | rfl | rfl | rfl | rfl <;> exact ⟨rfl, by decide, by decide, rfl⟩
  · rcases q with rfl | rfl | rfl | rfl | rfl | rfl <;> exact ⟨rfl, by decide, by decide, rfl⟩
/-- the programs' cells alone -/
def pR (M : Mem) (c i : Nat) : Int := bif qP c i then (iv M c i).toInt else 0
theorem pR_at {M : Mem} {c i : Nat} (h : qP c i = true) : pR M c i = (iv M c i).toInt := by unfold pR; rw [h]; rfl
theorem bif_same {b : Bool} {x y : Int} (h : b = true → x = y) : (bif b then x else 0) = (bif b then y else 0) := by
  cases b with
  | false => rfl
  | true => exact h rfl
theorem pR_same {M M' : Mem} (h : ∀ c i, qP c i = true → mSlot M' c i = mSlot M c i) : pR M' = pR M := by
  funext c i
  show (bif qP c i then (iv M' c i).toInt else 0) = (bif qP c i then (iv M c i).toInt else 0)
  exact bif_same (fun hq => by unfold iv; rw [h c i hq])
/-- a clause as the class keeps it: its letter, its places, its steps -/
def XC (R : Nat → Nat → Int) (a : Nat) (F : Nat → Int) (j : Nat) (c : Int) (a0 b e : Nat) (sh sk : Int) : Prop := R (a + 2) j = c ∧ R (a + 3) j = (b : Int) + sk ∧ R (a + 4) j = (a0 : Int) + sh ∧ (a0 ≤ b ∧ b ≤ e ∧ 0 ≤ sh ∧ sk = (if c = 121 then sh + 1 else sh)) ∧ (∀ i, a0 ≤ i → i < b → R (a + 1) ((i : Int) + sh).toNat = encC sh (F i)) ∧ (c = 121 → R (a + 1) ((b : Int) + sh).toNat = 61865984) ∧ (∀ i, b ≤ i → i < e → R (a + 1) ((i : Int) + sk).toNat = encC sk (F i)) ∧ R (a + 1) ((e : Int) + sk).toNat = 61865984
/-- as the reference keeps it -/
def XR (R : Nat → Nat → Int) (k : Nat) (F : Nat → Int) (j : Nat) (c : Int) (a b e : Nat) : Prop := R 211 (12 * k + j) = c ∧ R 212 (12 * k + j) = 180 * (k : Int) + a ∧ R 213 (12 * k + j) = 180 * (k : Int) + b ∧ R 214 (12 * k + j) = 180 * (k : Int) + e ∧ e ≤ 180 ∧ ∀ i, i < e → R 209 (180 * k + i) = F i
/-- a law's programs are alike -/
def xPk (R : Nat → Nat → Int) (k : Nat) : Prop := ∃ (t : Int → Int) (f g F : Nat → Int) (n : Nat), n ≤ 12 ∧ R (152 + 6 * k) 5 = (n : Int) ∧ R 210 k = (n : Int) ∧ (0 < n → ∃ P Q P1, RdS t f g (n - 1) P ∧ ClQ t P Q ∧ ClE t Q P1 ∧ F = P1.2.1) ∧ ∀ j, j < n → ∃ P Q P1 sh sk, RdS t f g j P ∧ ClQ t P Q ∧ ClE t Q P1 ∧ XC R (152 + 6 * k) F j (t P.1.1) P.1.2.2.1 Q.1.2.2.1 P1.1.2.2.1 sh sk ∧ XR R k F j (t P.1.1) P.1.2.2.1 Q.1.2.2.1 P1.1.2.2.1
theorem xPk_to {R R' : Nat → Nat → Int} {k : Nat} (h1 : R' (152 + 6 * k) 5 = R (152 + 6 * k) 5) (h2 : ∀ i, R' (152 + 6 * k + 1) i = R (152 + 6 * k + 1) i ∧ R' (152 + 6 * k + 2) i = R (152 + 6 * k + 2) i ∧ R' (152 + 6 * k + 3) i = R (152 + 6 * k + 3) i ∧ R' (152 + 6 * k + 4) i = R (152 + 6 * k + 4) i) (h3 : R' 210 k = R 210 k) (h4 : ∀ i, i < 180 → R' 209 (180 * k + i) = R 209 (180 * k + i)) (h5 : ∀ j, j < 12 → R' 211 (12 * k + j) = R 211 (12 * k + j) ∧ R' 212 (12 * k + j) = R 212 (12 * k + j) ∧ R' 213 (12 * k + j) = R 213 (12 * k + j) ∧ R' 214 (12 * k + j) = R 214 (12 * k + j)) (h : xPk R k) : xPk R' k := by
  obtain ⟨t, f, g, F, n, n1, a1, a2, a3, a4⟩ := h
  refine ⟨t, f, g, F, n, n1, h1.trans a1, h3.trans a2, a3, fun j hj => ?_⟩
  obtain ⟨P, Q, P1, sh, sk, r1, r2, r3, ⟨c1, c2, c3, c4, c5, c6, c7, c8⟩, ⟨d1, d2, d3, d4, d5, d6⟩⟩ := a4 j hj
  obtain ⟨e1, e2, e3, e4⟩ := h5 j (by omega)
  refine ⟨P, Q, P1, sh, sk, r1, r2, r3, ⟨(h2 j).2.1.trans c1, (h2 j).2.2.1.trans c2, (h2 j).2.2.2.trans c3, c4, fun i x y => (h2 _).1.trans (c5 i x y), fun x => (h2 _).1.trans (c6 x), fun i x y => (h2 _).1.trans (c7 i x y), (h2 _).1.trans c8⟩, ⟨e1.trans d1, e2.trans d2, e3.trans d3, e4.trans d4, d5, fun i hi => (h4 i (by omega)).trans (d6 i hi)⟩⟩
def xP (γ : Gh) (M : Mem) : Prop := (γ 1021 0).toInt = 0 → ∀ k, k < 3 → xPk (pR M) k
/-- the market is held alike -/
def xM (M : Mem) : Prop := (∀ i, i < 8 → iv M 223 i = iv M 139 i ∧ iv M 224 i = iv M 140 i ∧ iv M 225 i = iv M 141 i ∧ ∀ j, j < 8 → (iv M 226 (8 * i + j)).toInt = (iv M (143 + i) j).toInt - 100) ∧ (0 ≤ (iv M 181 59).toInt ∧ (iv M 181 59).toInt < 256) ∧ ∀ i, i < 8 → Nat.testBit (iv M 181 59).toInt.toNat i = decide (iv M 140 i ≠ 0)
def qM (c i : Nat) : Prop := (c = 139 ∨ c = 140 ∨ c = 141 ∨ (143 ≤ c ∧ c ≤ 150) ∨ (223 ≤ c ∧ c ≤ 226)) ∨ (c = 181 ∧ i = 59)
theorem xM_same {M N : Mem} (h : ∀ c i, qM c i → mSlot N c i = mSlot M c i) (hx : xM M) : xM N := by
  have h : ∀ c i, qM c i → iv N c i = iv M c i := fun c i q => by unfold iv; rw [h c i q]
  refine ⟨fun i hi => ?_, ?_, fun i hi => ?_⟩
  · obtain ⟨a, b, c, d⟩ := hx.1 i hi
    refine ⟨?_, ?_, ?_, fun j hj => ?_⟩
    · rw [h 223 i (by unfold qM; omega), h 139 i (by unfold qM; omega)]; exact a
    · rw [h 224 i (by unfold qM; omega), h 140 i (by unfold qM; omega)]; exact b
    · rw [h 225 i (by unfold qM; omega), h 141 i (by unfold qM; omega)]; exact c
    · rw [h 226 (8 * i + j) (by unfold qM; omega), h (143 + i) j (by unfold qM; omega)]; exact d j hj
  · rw [h 181 59 (by unfold qM; omega)]; exact hx.2.1
  · rw [h 181 59 (by unfold qM; omega), h 140 i (by unfold qM; omega)]; exact hx.2.2 i hi
theorem qM_pro {c i : Nat} (h : qM c i) : tPro (tGrp c) (aSlK c i) = true ∧ 2 ≤ c ∧ c < tEnd ∧ q10 (tGrp c) (aSlK c i) = true := by
  have q : (c = 139 ∨ c = 140 ∨ c = 141 ∨ c = 143 ∨ c = 144 ∨ c = 145 ∨ c = 146 ∨ c = 147 ∨ c = 148 ∨ c = 149 ∨ c = 150 ∨ c = 223 ∨ c = 224 ∨ c = 225 ∨ c = 226) ∨ (c = 181 ∧ i = 59) := by
    unfold qM at h
    omega
  rcases q with q | ⟨rfl, rfl⟩
  · rcases q with rfl | rfl | rfl | rfl | rfl | rfl | rfl | rfl | rfl | rfl | rfl | rfl | rfl | rfl | rfl <;> exact ⟨rfl, by decide, by decide, rfl⟩
  · exact ⟨rfl, by decide, by decide, rfl⟩
def x10 (γ : Gh) (M : Mem) : Prop := Rf M ∧ xS M ∧ xT γ M ∧ xP γ M ∧ xM M
def xx (γ : Gh) (M : Mem) : Prop := x9 γ M ∧ x10 γ M
theorem x10_same {γ : Gh} {M M' : Mem} (h : ∀ c i, tPro (tGrp c) (aSlK c i) = true → mSlot M' c i = mSlot M c i) (hx : x10 γ M) : x10 γ M' :=
  ⟨⟨fun e he => (h 8 e rfl).trans (hx.1.1 e he), fun k hk => (h 129 k rfl).trans (hx.1.2.1 k hk), fun p hp => (h 99 p rfl).trans (hx.1.2.2.1 p hp), fun i hi => (h 142 i rfl).trans (hx.1.2.2.2 i hi)⟩,
    fun s hs => ⟨by rw [h 5 s rfl, h 183 s rfl]; exact (hx.2.1 s hs).1, by rw [h 6 s rfl, h 184 s rfl]; exact (hx.2.1 s hs).2⟩, fun k hk => by rw [h 128 k rfl, h 202 k rfl]; exact hx.2.2.1 k hk,
    fun h0 k hk => by rw [pR_same (fun c i hq => h c i (qP_pro hq).1)]; exact hx.2.2.2.1 h0 k hk, xM_same (fun c i q => h c i (qM_pro q).1) hx.2.2.2.2⟩
theorem xx_same {γ : Gh} {M M' : Mem} (h : ∀ c i, tPro (tGrp c) (aSlK c i) = true → mSlot M' c i = mSlot M c i) (hx : xx γ M) : xx γ M' := ⟨x9_same h hx.1, x10_same h hx.2⟩

/-! what else is alike, or stands for good: strips; the cells that hold references -/
/-- the market's cells -/
def qK (g : Nat) : Bool := Nat.beq g 139 || Nat.beq g 140 || Nat.beq g 141 || Nat.beq g 143 || Nat.beq g 223 || Nat.beq g 224 || Nat.beq g 225 || Nat.beq g 226
def q10 (g i : Nat) : Bool := Nat.beq g 5 || Nat.beq g 6 || Nat.beq g 183 || Nat.beq g 184 || Nat.beq g 129 || Nat.beq g 99 || Nat.beq g 142 || Nat.beq g 8 || Nat.beq g 128 || Nat.beq g 202 || Nat.beq g 1020 || qK g || (Nat.beq g 181 && Nat.beq i 59)
/-- the programs' cells, and the ghost that says whether they are alike -/
def q11 (g i : Nat) : Bool := tProP g i || (Nat.ble 209 g && Nat.ble g 214) || Nat.beq g 1021
def yT8 (M : Mem) : Prop := ∀ e, e < 40 → mSlot M 8 e = some (.ref (10 + e))
/-- references that stand for good: deeds, laws, rows -/
def Rf (M : Mem) : Prop := yT8 M ∧ (∀ k, k < 3 → mSlot M 129 k = some (.ref (152 + 6 * k))) ∧ (∀ p, p < 10 → mSlot M 99 p = some (.ref (100 + p))) ∧ ∀ i, i < 8 → mSlot M 142 i = some (.ref (143 + i))
/-- strips: whose they are at first, under which law -/
def xS (M : Mem) : Prop := ∀ s, s < 8 → mSlot M 5 s = mSlot M 183 s ∧ mSlot M 6 s = mSlot M 184 s
/-- the tape's bytes are alike, as many as the ghost says -/
def xT (γ : Gh) (M : Mem) : Prop := ∀ k : Nat, (k : Int) < (γ 1020 0).toInt → ∃ x y : Int32, mSlot M 128 k = some (.int x) ∧ mSlot M 202 k = some (.int y) ∧ x = y &&& (255 : Int32)
def qP (c i : Nat) : Bool := tProP c i || (Nat.ble 209 c && Nat.ble c 214)
theorem qP_pro {c i : Nat} (h : qP c i = true) : tPro (tGrp c) (aSlK c i) = true ∧ 2 ≤ c ∧ c < tEnd ∧ q11 (tGrp c) (aSlK c i) = true := by
  have q : ((c = 152 ∨ c = 158 ∨ c = 164) ∧ (i = 5 ∨ i = 1)) ∨ (c = 153 ∨ c = 154 ∨ c = 155 ∨ c = 156 ∨ c = 159 ∨ c = 160 ∨ c = 161 ∨ c = 162 ∨ c = 165 ∨ c = 166 ∨ c = 167 ∨ c = 168) ∨ (c = 209 ∨ c = 210 ∨ c = 211 ∨ c = 212 ∨ c = 213 ∨ c = 214) := by
    simp only [qP, tProP, Bool.or_eq_true, Bool.and_eq_true, Nat.beq_eq, Nat.ble_eq] at h
    omega
  rcases q with ⟨q, q2⟩ | q | q
  · rcases q with rfl | rfl | rfl <;> rcases q2 with rfl | rfl <;> exact ⟨rfl, by decide, by decide, rfl⟩
  · rcases q with rfl | rfl | rfl | rfl | rfl | rfl | rfl | rfl | rfl | rfl | rfl | rfl <;> exact ⟨rfl, by decide, by decide, rfl⟩
  · rcases q with rfl | rfl | rfl | rfl | rfl | rfl <;> exact ⟨rfl, by decide, by decide, rfl⟩
/-- the programs' cells alone -/
def pR (M : Mem) (c i : Nat) : Int := bif qP c i then (iv M c i).toInt else 0
theorem pR_at {M : Mem} {c i : Nat} (h : qP c i = true) : pR M c i = (iv M c i).toInt := by unfold pR; rw [h]; rfl
theorem bif_same {b : Bool} {x y : Int} (h : b = true → x = y) : (bif b then x else 0) = (bif b then y else 0) := by
  cases b with
  | false => rfl
  | true => exact h rfl
theorem pR_same {M M' : Mem} (h : ∀ c i, qP c i = true → mSlot M' c i = mSlot M c i) : pR M' = pR M := by
  funext c i
  show (bif qP c i then (iv M' c i).toInt else 0) = (bif qP c i then (iv M c i).toInt else 0)
  exact bif_same (fun hq => by unfold iv; rw [h c i hq])
/-- a clause as the class keeps it: its letter, its places, its steps -/
def XC (R : Nat → Nat → Int) (a : Nat) (F : Nat → Int) (j : Nat) (c : Int) (a0 b e : Nat) (sh sk : Int) : Prop := R (a + 2) j = c ∧ R (a + 3) j = (b : Int) + sk ∧ R (a + 4) j = (a0 : Int) + sh ∧ (a0 ≤ b ∧ b ≤ e ∧ 0 ≤ sh ∧ sk = (if c = 121 then sh + 1 else sh)) ∧ (∀ i, a0 ≤ i → i < b → R (a + 1) ((i : Int) + sh).toNat = encC sh (F i)) ∧ (c = 121 → R (a + 1) ((b : Int) + sh).toNat = 61865984) ∧ (∀ i, b ≤ i → i < e → R (a + 1) ((i : Int) + sk).toNat = encC sk (F i)) ∧ R (a + 1) ((e : Int) + sk).toNat = 61865984 ∧ (e : Int) + sk < R a 1
/-- as the reference keeps it -/
def XR (R : Nat → Nat → Int) (k : Nat) (F : Nat → Int) (j : Nat) (c : Int) (a b e : Nat) : Prop := R 211 (12 * k + j) = c ∧ R 212 (12 * k + j) = 180 * (k : Int) + a ∧ R 213 (12 * k + j) = 180 * (k : Int) + b ∧ R 214 (12 * k + j) = 180 * (k : Int) + e ∧ e ≤ 180 ∧ ∀ i, i < e → R 209 (180 * k + i) = F i
/-- a law's programs are alike -/
def xPk (R : Nat → Nat → Int) (k : Nat) : Prop := ∃ (t : Int → Int) (f g F : Nat → Int) (n : Nat), n ≤ 12 ∧ R (152 + 6 * k) 5 = (n : Int) ∧ R 210 k = (n : Int) ∧ (0 < n → ∃ P Q P1, RdS t f g (n - 1) P ∧ ClQ t P Q ∧ ClE t Q P1 ∧ F = P1.2.1) ∧ ∀ j, j < n → ∃ P Q P1 sh sk, RdS t f g j P ∧ ClQ t P Q ∧ ClE t Q P1 ∧ XC R (152 + 6 * k) F j (t P.1.1) P.1.2.2.1 Q.1.2.2.1 P1.1.2.2.1 sh sk ∧ XR R k F j (t P.1.1) P.1.2.2.1 Q.1.2.2.1 P1.1.2.2.1
theorem xPk_to {R R' : Nat → Nat → Int} {k : Nat} (h1 : R' (152 + 6 * k) 5 = R (152 + 6 * k) 5) (h0 : R' (152 + 6 * k) 1 = R (152 + 6 * k) 1) (h2 : ∀ i, R' (152 + 6 * k + 1) i = R (152 + 6 * k + 1) i ∧ R' (152 + 6 * k + 2) i = R (152 + 6 * k + 2) i ∧ R' (152 + 6 * k + 3) i = R (152 + 6 * k + 3) i ∧ R' (152 + 6 * k + 4) i = R (152 + 6 * k + 4) i) (h3 : R' 210 k = R 210 k) (h4 : ∀ i, i < 180 → R' 209 (180 * k + i) = R 209 (180 * k + i)) (h5 : ∀ j, j < 12 → R' 211 (12 * k + j) = R 211 (12 * k + j) ∧ R' 212 (12 * k + j) = R 212 (12 * k + j) ∧ R' 213 (12 * k + j) = R 213 (12 * k + j) ∧ R' 214 (12 * k + j) = R 214 (12 * k + j)) (h : xPk R k) : xPk R' k := by
  obtain ⟨t, f, g, F, n, n1, a1, a2, a3, a4⟩ := h
  refine ⟨t, f, g, F, n, n1, h1.trans a1, h3.trans a2, a3, fun j hj => ?_⟩
  obtain ⟨P, Q, P1, sh, sk, r1, r2, r3, ⟨c1, c2, c3, c4, c5, c6, c7, c8, c9⟩, ⟨d1, d2, d3, d4, d5, d6⟩⟩ := a4 j hj
  obtain ⟨e1, e2, e3, e4⟩ := h5 j (by omega)
  refine ⟨P, Q, P1, sh, sk, r1, r2, r3, ⟨(h2 j).2.1.trans c1, (h2 j).2.2.1.trans c2, (h2 j).2.2.2.trans c3, c4, fun i x y => (h2 _).1.trans (c5 i x y), fun x => (h2 _).1.trans (c6 x), fun i x y => (h2 _).1.trans (c7 i x y), (h2 _).1.trans c8, by rw [h0]; exact c9⟩, ⟨e1.trans d1, e2.trans d2, e3.trans d3, e4.trans d4, d5, fun i hi => (h4 i (by omega)).trans (d6 i hi)⟩⟩
def xP (γ : Gh) (M : Mem) : Prop := (γ 1021 0).toInt = 0 → ∀ k, k < 3 → xPk (pR M) k
/-- the market is held alike -/
def xM (M : Mem) : Prop := (∀ i, i < 8 → iv M 223 i = iv M 139 i ∧ iv M 224 i = iv M 140 i ∧ iv M 225 i = iv M 141 i ∧ ∀ j, j < 8 → (iv M 226 (8 * i + j)).toInt = (iv M (143 + i) j).toInt - 100) ∧ (0 ≤ (iv M 181 59).toInt ∧ (iv M 181 59).toInt < 256) ∧ ∀ i, i < 8 → Nat.testBit (iv M 181 59).toInt.toNat i = decide (iv M 140 i ≠ 0)
def qM (c i : Nat) : Prop := (c = 139 ∨ c = 140 ∨ c = 141 ∨ (143 ≤ c ∧ c ≤ 150) ∨ (223 ≤ c ∧ c ≤ 226)) ∨ (c = 181 ∧ i = 59)
theorem xM_same {M N : Mem} (h : ∀ c i, qM c i → mSlot N c i = mSlot M c i) (hx : xM M) : xM N := by
  have h : ∀ c i, qM c i → iv N c i = iv M c i := fun c i q => by unfold iv; rw [h c i q]
  refine ⟨fun i hi => ?_, ?_, fun i hi => ?_⟩
  · obtain ⟨a, b, c, d⟩ := hx.1 i hi
    refine ⟨?_, ?_, ?_, fun j hj => ?_⟩
    · rw [h 223 i (by unfold qM; omega), h 139 i (by unfold qM; omega)]; exact a
    · rw [h 224 i (by unfold qM; omega), h 140 i (by unfold qM; omega)]; exact b
    · rw [h 225 i (by unfold qM; omega), h 141 i (by unfold qM; omega)]; exact c
    · rw [h 226 (8 * i + j) (by unfold qM; omega), h (143 + i) j (by unfold qM; omega)]; exact d j hj
  · rw [h 181 59 (by unfold qM; omega)]; exact hx.2.1
  · rw [h 181 59 (by unfold qM; omega), h 140 i (by unfold qM; omega)]; exact hx.2.2 i hi
theorem qM_pro {c i : Nat} (h : qM c i) : tPro (tGrp c) (aSlK c i) = true ∧ 2 ≤ c ∧ c < tEnd ∧ q10 (tGrp c) (aSlK c i) = true := by
  have q : (c = 139 ∨ c = 140 ∨ c = 141 ∨ c = 143 ∨ c = 144 ∨ c = 145 ∨ c = 146 ∨ c = 147 ∨ c = 148 ∨ c = 149 ∨ c = 150 ∨ c = 223 ∨ c = 224 ∨ c = 225 ∨ c = 226) ∨ (c = 181 ∧ i = 59) := by
    unfold qM at h
    omega
  rcases q with q | ⟨rfl, rfl⟩
  · rcases q with rfl | rfl | rfl | rfl | rfl | rfl | rfl | rfl | rfl | rfl | rfl | rfl | rfl | rfl | rfl <;> exact ⟨rfl, by decide, by decide, rfl⟩
  · exact ⟨rfl, by decide, by decide, rfl⟩
/-- a column as the class's own hearings and wells make it -/
def knO (M : Mem) (e d p : Nat) : Int := knW (fun k => (iv M 97 k).toInt) (fun k => (iv M 98 k).toInt.toNat) (knH (fun k => (iv M 94 k).toInt) (fun k => (iv M 95 k).toInt) (fun k => (iv M 96 k).toInt) (d : Int) (knI (iv M (10 + e) 0).toInt (iv M (10 + e) 1).toInt (iv M (10 + e) 3).toInt) (iv M 93 3).toInt.toNat) (iv M 93 6).toInt.toNat p
/-- what is made of knO's cells -/
def qO (c i : Nat) : Prop := (94 ≤ c ∧ c ≤ 98) ∨ (c = 93 ∧ (i = 3 ∨ i = 6))
theorem knO_same {M N : Mem} {e : Nat} (h : ∀ c i, qO c i → iv N c i = iv M c i) (h0 : iv N (10 + e) 0 = iv M (10 + e) 0) (h1 : iv N (10 + e) 1 = iv M (10 + e) 1) (h3 : iv N (10 + e) 3 = iv M (10 + e) 3) (d p : Nat) : knO N e d p = knO M e d p := by
  unfold knO
  rw [h 93 3 (by unfold qO; omega), h 93 6 (by unfold qO; omega), h0, h1, h3]
  have a : ∀ c, 94 ≤ c → c ≤ 98 → (fun k => (iv N c k).toInt) = fun k => (iv M c k).toInt := fun c h4 h5 => funext fun k => by rw [h c k (Or.inl ⟨h4, h5⟩)]
  have b : (fun k => (iv N 98 k).toInt.toNat) = fun k => (iv M 98 k).toInt.toNat := funext fun k => by rw [h 98 k (by unfold qO; omega)]
  rw [a 97 (by decide) (by decide), a 94 (by decide) (by decide), a 95 (by decide) (by decide), a 96 (by decide) (by decide), b]
/-- the hearings and wells of the class's cell g are those of the reference's arrays from b on -/
def kHW (M : Mem) (g b : Nat) : Prop := (∀ k : Nat, (k : Int) < (iv M g 3).toInt → iv M (g + 1) k = iv M b k ∧ iv M (g + 2) k = iv M (b + 1) k ∧ iv M (g + 3) k = iv M (b + 2) k) ∧ ∃ π, knP (fun k => (iv M (b + 3) k).toInt) (iv M g 6).toInt.toNat π ∧ ∀ k, k < (iv M g 6).toInt.toNat → iv M (g + 4) k = iv M (b + 3) (π k) ∧ iv M (g + 5) k = iv M (b + 4) (π k)
/-- one cell's are the other's -/
def kC (M : Mem) (g g' : Nat) : Prop := (∀ i, i < 60 → iv M (g + 1) i = iv M (g' + 1) i ∧ iv M (g + 2) i = iv M (g' + 2) i ∧ iv M (g + 3) i = iv M (g' + 3) i) ∧ (∀ i, i < 20 → iv M (g + 4) i = iv M (g' + 4) i ∧ iv M (g + 5) i = iv M (g' + 5) i) ∧ iv M g 3 = iv M g' 3 ∧ iv M g 6 = iv M g' 6
/-- the first n of the reference's five arrays from b on are those from b' on -/
def kR (M : Mem) (b b' : Nat) (n : Int) : Prop := ∀ j : Nat, (j : Int) < n → j < 5 → ∀ i, i < (if j < 3 then 60 else 20) → iv M (b + j) i = iv M (b' + j) i
def xKa (γ : Gh) (M : Mem) : Prop := ((γ 1023 0).toInt = 0 → kHW M 93 195 ∧ kHW M 110 236) ∧ ((γ 1023 0).toInt = 1 → kHW M 93 195 ∧ kC M 110 93 ∧ kR M 236 195 (γ 1023 1).toInt) ∧ ((γ 1023 0).toInt = 2 → kHW M 110 236 ∧ kC M 93 110 ∧ kR M 195 236 (γ 1023 1).toInt)
def xKb (γ : Gh) (M : Mem) : Prop := ∀ d : Nat, d < 40 → (d : Int) < (γ 1022 0).toInt → ∀ p, p < 10 → (iv M (100 + p) d).toInt = knO M d d p
def xK (γ : Gh) (M : Mem) : Prop := xKa γ M ∧ xKb γ M
/-- the cells of hearings and wells -/
def qA (c i : Nat) : Prop := (94 ≤ c ∧ c ≤ 98) ∨ (111 ≤ c ∧ c ≤ 115) ∨ (195 ≤ c ∧ c ≤ 199) ∨ (236 ≤ c ∧ c ≤ 240) ∨ ((c = 93 ∨ c = 110) ∧ (i = 3 ∨ i = 6))
theorem kA_same {M N : Mem} {g b : Nat} (hb : (g = 93 ∨ g = 110) ∧ (b = 195 ∨ b = 236)) (h : ∀ c i, qA c i → iv N c i = iv M c i) (hk : kHW M g b) : kHW N g b := by
  obtain ⟨h1, π, h2, h3⟩ := hk
  have e3 : iv N g 3 = iv M g 3 := h g 3 (by unfold qA; omega)
  have e6 : iv N g 6 = iv M g 6 := h g 6 (by unfold qA; omega)
  refine ⟨fun k hk => ?_, π, ?_, fun k hk => ?_⟩
  · rw [e3] at hk
    obtain ⟨a, b1, c⟩ := h1 k hk
    rw [h (g + 1) k (by unfold qA; omega), h (g + 2) k (by unfold qA; omega), h (g + 3) k (by unfold qA; omega), h b k (by unfold qA; omega), h (b + 1) k (by unfold qA; omega), h (b + 2) k (by unfold qA; omega)]
    exact ⟨a, b1, c⟩
  · rw [e6]
    refine knP_congr (fun k _ => ?_) h2
    rw [h (b + 3) k (by unfold qA; omega)]
  · rw [e6] at hk
    obtain ⟨a, b1⟩ := h3 k hk
    rw [h (g + 4) k (by unfold qA; omega), h (g + 5) k (by unfold qA; omega), h (b + 3) (π k) (by unfold qA; omega), h (b + 4) (π k) (by unfold qA; omega)]
    exact ⟨a, b1⟩
theorem kC_same {M N : Mem} {g b : Nat} (hb : (g = 93 ∨ g = 110) ∧ (b = 93 ∨ b = 110)) (h : ∀ c i, qA c i → iv N c i = iv M c i) (hk : kC M g b) : kC N g b := by
  obtain ⟨h1, h2, h3, h4⟩ := hk
  refine ⟨fun i hi => ?_, fun i hi => ?_, ?_, ?_⟩
  · rw [h (g + 1) i (by unfold qA; omega), h (g + 2) i (by unfold qA; omega), h (g + 3) i (by unfold qA; omega), h (b + 1) i (by unfold qA; omega), h (b + 2) i (by unfold qA; omega), h (b + 3) i (by unfold qA; omega)]
    exact h1 i hi
  · rw [h (g + 4) i (by unfold qA; omega), h (g + 5) i (by unfold qA; omega), h (b + 4) i (by unfold qA; omega), h (b + 5) i (by unfold qA; omega)]
    exact h2 i hi
  · rw [h g 3 (by unfold qA; omega), h b 3 (by unfold qA; omega)]
    exact h3
  · rw [h g 6 (by unfold qA; omega), h b 6 (by unfold qA; omega)]
    exact h4
theorem kR_same {M N : Mem} {g b : Nat} {n : Int} (hb : (g = 195 ∨ g = 236) ∧ (b = 195 ∨ b = 236)) (h : ∀ c i, qA c i → iv N c i = iv M c i) (hk : kR M g b n) : kR N g b n := fun j hj h5 i hi => by
  rw [h (g + j) i (by unfold qA; omega), h (b + j) i (by unfold qA; omega)]
  exact hk j hj h5 i hi
theorem xKa_same {γ γ' : Gh} {M N : Mem} (e0 : γ' 1023 0 = γ 1023 0) (e1 : γ' 1023 1 = γ 1023 1) (h : ∀ c i, qA c i → iv N c i = iv M c i) (hk : xKa γ M) : xKa γ' N := by
  unfold xKa
  rw [e0, e1]
  obtain ⟨h0, h1, h2⟩ := hk
  exact ⟨fun q => ⟨kA_same (by decide) h (h0 q).1, kA_same (by decide) h (h0 q).2⟩, fun q => ⟨kA_same (by decide) h (h1 q).1, kC_same (by decide) h (h1 q).2.1, kR_same (by decide) h (h1 q).2.2⟩, fun q => ⟨kA_same (by decide) h (h2 q).1, kC_same (by decide) h (h2 q).2.1, kR_same (by decide) h (h2 q).2.2⟩⟩
theorem xKb_same {γ γ' : Gh} {M N : Mem} (e0 : (γ' 1022 0).toInt ≤ (γ 1022 0).toInt) (h : ∀ c i, qO c i → iv N c i = iv M c i) (hd : ∀ d : Nat, d < 40 → (d : Int) < (γ' 1022 0).toInt → (∀ p, p < 10 → iv N (100 + p) d = iv M (100 + p) d) ∧ iv N (10 + d) 0 = iv M (10 + d) 0 ∧ iv N (10 + d) 1 = iv M (10 + d) 1 ∧ iv N (10 + d) 3 = iv M (10 + d) 3) (hk : xKb γ M) : xKb γ' N := by
  intro d h40 hd' p hp
  obtain ⟨a, b0, b1, b3⟩ := hd d h40 hd'
  rw [a p hp, hk d h40 (by omega) p hp]
  exact (knO_same h b0 b1 b3 d p).symm
/-- all of it -/
def qN (c i : Nat) : Prop := qA c i ∨ (100 ≤ c ∧ c ≤ 109) ∨ ((10 ≤ c ∧ c ≤ 49) ∧ (i = 0 ∨ i = 1 ∨ i = 3))
theorem xK_same {γ γ' : Gh} {M N : Mem} (e : γ' 1022 0 = γ 1022 0) (e0 : γ' 1023 0 = γ 1023 0) (e1 : γ' 1023 1 = γ 1023 1) (h : ∀ c i, qN c i → mSlot N c i = mSlot M c i) (hk : xK γ M) : xK γ' N := by
  have h : ∀ c i, qN c i → iv N c i = iv M c i := fun c i q => by unfold iv; rw [h c i q]
  refine ⟨xKa_same e0 e1 (fun c i q => h c i (Or.inl q)) hk.1, xKb_same (by rw [e]; exact Int.le_refl _) (fun c i q => h c i (by unfold qO at q; unfold qN qA; omega)) (fun d h40 _ => ⟨fun p hp => h _ _ (by unfold qN; omega), h _ _ (by unfold qN; omega), h _ _ (by unfold qN; omega), h _ _ (by unfold qN; omega)⟩) hk.2⟩
/-- by groups: gossip's cells and ghosts; the deeds' fields -/
def q13 (g i : Nat) : Bool := (Nat.ble 94 g && Nat.ble g 98) || (Nat.ble 111 g && Nat.ble g 115) || (Nat.ble 195 g && Nat.ble g 199) || (Nat.ble 236 g && Nat.ble g 240) || ((Nat.beq g 93 || Nat.beq g 110) && (Nat.beq i 3 || Nat.beq i 6)) || Nat.beq g 100 || Nat.beq g 1022 || Nat.beq g 1023
def q14 (g i : Nat) : Bool := q13 g i || (Nat.beq g 10 && (Nat.beq i 0 || Nat.beq i 1 || Nat.beq i 3))
set_option maxRecDepth 100000 in
theorem qN_g : ∀ c, c < 242 → ((10 ≤ c ∧ c ≤ 49) → tGrp c = 10 ∧ ∀ i, i < 10 → aSlK c i = i) ∧ ((100 ≤ c ∧ c ≤ 109) → tGrp c = 100) ∧ (((94 ≤ c ∧ c ≤ 98) ∨ (111 ≤ c ∧ c ≤ 115) ∨ (195 ≤ c ∧ c ≤ 199) ∨ (236 ≤ c ∧ c ≤ 240)) → tGrp c = c) := by decide +kernel
theorem qN_pro {c i : Nat} (h : qN c i) : tPro (tGrp c) (aSlK c i) = true ∧ 2 ≤ c ∧ c < tEnd ∧ q14 (tGrp c) (aSlK c i) = true := by
  have q : (c = 94 ∨ c = 95 ∨ c = 96 ∨ c = 97 ∨ c = 98 ∨ c = 111 ∨ c = 112 ∨ c = 113 ∨ c = 114 ∨ c = 115 ∨ c = 195 ∨ c = 196 ∨ c = 197 ∨ c = 198 ∨ c = 199 ∨ c = 236 ∨ c = 237 ∨ c = 238 ∨ c = 239 ∨ c = 240) ∨ ((c = 93 ∨ c = 110) ∧ (i = 3 ∨ i = 6)) ∨ (100 ≤ c ∧ c ≤ 109) ∨ ((10 ≤ c ∧ c ≤ 49) ∧ (i = 0 ∨ i = 1 ∨ i = 3)) := by
    unfold qN qA at h
    omega
  rcases q with q | ⟨q, q2⟩ | q | ⟨q, q2⟩
  · rcases q with rfl | rfl | rfl | rfl | rfl | rfl | rfl | rfl | rfl | rfl | rfl | rfl | rfl | rfl | rfl | rfl | rfl | rfl | rfl | rfl <;> exact ⟨rfl, by decide, by decide, rfl⟩
  · rcases q with rfl | rfl <;> rcases q2 with rfl | rfl <;> exact ⟨rfl, by decide, by decide, rfl⟩
  · have e := (qN_g c (by omega)).2.1 q
    rw [e]
    exact ⟨rfl, by omega, by show c < 242; omega, rfl⟩
  · obtain ⟨e, e2⟩ := (qN_g c (by omega)).1 q
    rw [e, e2 i (by omega)]
    rcases q2 with rfl | rfl | rfl <;> exact ⟨rfl, by omega, by show c < 242; omega, rfl⟩
def x10 (γ : Gh) (M : Mem) : Prop := Rf M ∧ xS M ∧ xT γ M ∧ xP γ M ∧ xM M ∧ xK γ M
/-- the order of deeds, as the class keeps it: by day, then number -/
def okL (M : Mem) (c b o : Nat) : Prop := (iv M c 2).toInt.toNat ≤ 40 ∧ knP (fun d => (iv M (b + d) 3).toInt) (iv M c 2).toInt.toNat (fun k => (iv M o k).toInt.toNat)
def okLs (M : Mem) : Prop := okL M 7 10 9 ∧ okL M 50 53 52
/-- it is told as long as the ghost is 0 -/
def xO (γ : Gh) (M : Mem) : Prop := (γ 1024 0).toInt = 0 → okLs M
def qR (c i : Nat) : Prop := ((c = 7 ∨ c = 50) ∧ i = 2) ∨ (c = 9 ∨ c = 52) ∨ (((10 ≤ c ∧ c ≤ 49) ∨ (53 ≤ c ∧ c ≤ 92)) ∧ i = 3)
def q15 (g i : Nat) : Bool := ((Nat.beq g 7 || Nat.beq g 50) && Nat.beq i 2) || (Nat.beq g 9 || Nat.beq g 52) || ((Nat.beq g 10 || Nat.beq g 53) && Nat.beq i 3) || Nat.beq g 1024
theorem okL_same {M N : Mem} {c b o : Nat} (h1 : iv N c 2 = iv M c 2) (h2 : ∀ k, iv N o k = iv M o k) (h3 : ∀ d, d < 40 → iv N (b + d) 3 = iv M (b + d) 3) (h : okL M c b o) : okL N c b o := by
  unfold okL at h ⊢
  rw [h1, show (fun k => (iv N o k).toInt.toNat) = fun k => (iv M o k).toInt.toNat from funext fun k => by rw [h2 k]]
  exact ⟨h.1, knP_congr (fun d hd => by rw [h3 d (by have := h.1; omega)]) h.2⟩
theorem okLs_same {M N : Mem} (h : ∀ c i, qR c i → iv N c i = iv M c i) (hx : okLs M) : okLs N :=
  ⟨okL_same (h 7 2 (by unfold qR; omega)) (fun k => h 9 k (by unfold qR; omega)) (fun d hd => h (10 + d) 3 (by unfold qR; omega)) hx.1, okL_same (h 50 2 (by unfold qR; omega)) (fun k => h 52 k (by unfold qR; omega)) (fun d hd => h (53 + d) 3 (by unfold qR; omega)) hx.2⟩
theorem xO_same {γ γ' : Gh} {M N : Mem} (e : γ' 1024 0 = γ 1024 0) (h : ∀ c i, qR c i → mSlot N c i = mSlot M c i) (hx : xO γ M) : xO γ' N := fun h0 => okLs_same (fun c i q => by unfold iv; rw [h c i q]) (hx (by rw [← e]; exact h0))
theorem xO_1 {γ : Gh} {M : Mem} (h : (γ 1024 0).toInt = 1) : xO γ M := fun h0 => absurd h0 (by rw [h]; decide)
set_option maxRecDepth 100000 in
theorem qR_g : ∀ c, c < 242 → ((10 ≤ c ∧ c ≤ 49) → tGrp c = 10 ∧ aSlK c 3 = 3) ∧ ((53 ≤ c ∧ c ≤ 92) → tGrp c = 53 ∧ aSlK c 3 = 3) := by decide +kernel
theorem qR_pro {c i : Nat} (h : qR c i) : tPro (tGrp c) (aSlK c i) = true ∧ 2 ≤ c ∧ c < tEnd ∧ q15 (tGrp c) (aSlK c i) = true := by
  rcases h with ⟨h, rfl⟩ | h | ⟨h, rfl⟩
  · rcases h with rfl | rfl <;> exact ⟨rfl, by decide, by decide, rfl⟩
  · rcases h with rfl | rfl <;> exact ⟨rfl, by decide, by decide, rfl⟩
  · rcases h with h | h
    · obtain ⟨e1, e2⟩ := (qR_g c (by omega)).1 h
      rw [e1, e2]
      exact ⟨rfl, by omega, by show c < 242; omega, rfl⟩
    · obtain ⟨e1, e2⟩ := (qR_g c (by omega)).2 h
      rw [e1, e2]
      exact ⟨rfl, by omega, by show c < 242; omega, rfl⟩
def xx (γ : Gh) (M : Mem) : Prop := x9 γ M ∧ x10 γ M ∧ xO γ M
theorem x10_same {γ : Gh} {M M' : Mem} (h : ∀ c i, tPro (tGrp c) (aSlK c i) = true → mSlot M' c i = mSlot M c i) (hx : x10 γ M) : x10 γ M' :=
  ⟨⟨fun e he => (h 8 e rfl).trans (hx.1.1 e he), fun k hk => (h 129 k rfl).trans (hx.1.2.1 k hk), fun p hp => (h 99 p rfl).trans (hx.1.2.2.1 p hp), fun i hi => (h 142 i rfl).trans (hx.1.2.2.2 i hi)⟩,
    fun s hs => ⟨by rw [h 5 s rfl, h 183 s rfl]; exact (hx.2.1 s hs).1, by rw [h 6 s rfl, h 184 s rfl]; exact (hx.2.1 s hs).2⟩, fun k hk => by rw [h 128 k rfl, h 202 k rfl]; exact hx.2.2.1 k hk,
    fun h0 k hk => by rw [pR_same (fun c i hq => h c i (qP_pro hq).1)]; exact hx.2.2.2.1 h0 k hk, xM_same (fun c i q => h c i (qM_pro q).1) hx.2.2.2.2.1, xK_same rfl rfl rfl (fun c i q => h c i (qN_pro q).1) hx.2.2.2.2.2⟩
theorem xx_same {γ : Gh} {M M' : Mem} (h : ∀ c i, tPro (tGrp c) (aSlK c i) = true → mSlot M' c i = mSlot M c i) (hx : xx γ M) : xx γ M' := ⟨x9_same h hx.1, x10_same h hx.2.1, xO_same rfl (fun c i q => h c i (qR_pro q).1) hx.2.2⟩

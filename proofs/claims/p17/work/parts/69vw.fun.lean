/-! both laws answer alike -/
theorem LF_of {M : Mem} (h : Sh M) : LF M := by
  intro k hk
  have e : k = 0 ∨ k = 1 ∨ k = 2 := by omega
  rcases e with rfl | rfl | rfl
  · exact ⟨h.slR (c := 152) (i := 0) (g := 153) (by decide) (by decide) (by decide) rfl rfl rfl, h.slR (c := 152) (i := 2) (g := 154) (by decide) (by decide) (by decide) rfl rfl rfl, h.slR (c := 152) (i := 3) (g := 155) (by decide) (by decide) (by decide) rfl rfl rfl, h.slR (c := 152) (i := 4) (g := 156) (by decide) (by decide) (by decide) rfl rfl rfl⟩
  · exact ⟨h.slR (c := 158) (i := 0) (g := 159) (by decide) (by decide) (by decide) rfl rfl rfl, h.slR (c := 158) (i := 2) (g := 160) (by decide) (by decide) (by decide) rfl rfl rfl, h.slR (c := 158) (i := 3) (g := 161) (by decide) (by decide) (by decide) rfl rfl rfl, h.slR (c := 158) (i := 4) (g := 162) (by decide) (by decide) (by decide) rfl rfl rfl⟩
  · exact ⟨h.slR (c := 164) (i := 0) (g := 165) (by decide) (by decide) (by decide) rfl rfl rfl, h.slR (c := 164) (i := 2) (g := 166) (by decide) (by decide) (by decide) rfl rfl rfl, h.slR (c := 164) (i := 3) (g := 167) (by decide) (by decide) (by decide) rfl rfl rfl, h.slR (c := 164) (i := 4) (g := 168) (by decide) (by decide) (by decide) rfl rfl rfl⟩
def LCR (t : Int → Int) (f g : Nat → Int) (i n : Int32) (M : Mem) (r : Option Value) (M1 : Mem) : Prop := (¬ ((0 ≤ i.toInt ∧ i.toInt < 3) ∧ (1 ≤ n.toInt ∧ n.toInt ≤ 160) ∧ n.toInt ≤ (iv M 127 1).toInt) ∧ r = some (.int (-1)) ∧ M1 = M) ∨ ((0 ≤ i.toInt ∧ i.toInt < 3) ∧ (1 ≤ n.toInt ∧ n.toInt ≤ 160) ∧ n.toInt ≤ (iv M 127 1).toInt ∧ LCO t f g M i.toInt.toNat r M1)
def LRR (t : Int → Int) (f g : Nat → Int) (i n : Int32) (M : Mem) (r : Option Value) (M1 : Mem) : Prop := (¬ ((0 ≤ i.toInt ∧ i.toInt < 3) ∧ (1 ≤ n.toInt ∧ n.toInt ≤ 160) ∧ n.toInt ≤ (iv M 181 25).toInt) ∧ r = some (.int (-1)) ∧ M1 = M) ∨ ((0 ≤ i.toInt ∧ i.toInt < 3) ∧ (1 ≤ n.toInt ∧ n.toInt ≤ 160) ∧ n.toInt ≤ (iv M 181 25).toInt ∧ ∃ M2, LRO t f g M2 i.toInt.toNat r M1 ∧ RZ M M2 ∧ ∀ c x, c ≠ 181 → mSlot M2 c x = mSlot M c x)
section
variable {t : Int → Int} {f g : Nat → Int} {i n : Int32} {M M1 M2 : Mem} {r : Option Value}
theorem LCR.use (h : LCR t f g i n M r M1) : (∃ x, r = some (.int x)) ∧ (∀ c j, 169 ≤ c → mSlot M1 c j = mSlot M c j) ∧ ((iv M1 127 1).toInt = 0 ∨ iv M1 127 1 = iv M 127 1) := by
  rcases h with ⟨_, h2, h3⟩ | ⟨_, _, _, _, h2, h3, x, h4, _⟩
  · rw [h3]
    exact ⟨⟨_, h2⟩, fun _ _ _ => rfl, Or.inr rfl⟩
  · exact ⟨⟨x, h4⟩, fun c j hc => h2 c j (fun q => absurd q (by omega)) (by omega) (by omega), Or.inl h3⟩
theorem LRR.use (h : LRR t f g i n M r M1) : (∃ x, r = some (.int x)) ∧ (∀ c j, c ≤ 180 → mSlot M1 c j = mSlot M c j) ∧ ((iv M1 181 25).toInt = 0 ∨ iv M1 181 25 = iv M 181 25) := by
  rcases h with ⟨_, h2, h3⟩ | ⟨_, _, _, M2, ⟨_, h2, h3, x, h4, _⟩, h5, _⟩
  · rw [h3]
    exact ⟨⟨_, h2⟩, fun _ _ _ => rfl, Or.inr rfl⟩
  · exact ⟨⟨x, h4⟩, fun c j hc => (h2 c j (fun q => absurd q (by omega)) (by omega)).trans (h5 c j (fun q => absurd q (by omega)) (by omega)), Or.inl h3⟩
theorem law_same {x y : Int32} (h1 : LCR t f g i n M (some (.int x)) M1) (h2 : LRR t f g i n M1 (some (.int y)) M2) (hl : (iv M 127 1).toInt = (iv M1 181 25).toInt) : x = y ∧ (iv M1 127 1).toInt = (iv M2 181 25).toInt := by
  rcases h1 with ⟨a1, a2, a3⟩ | ⟨a1, a2, a3, _, _, a4, x1, a5, a6⟩
  · rcases h2 with ⟨b1, b2, b3⟩ | ⟨b1, b2, b3, _⟩
    · cases a2
      cases b2
      rw [b3, a3]
      exact ⟨rfl, by rw [hl, a3]⟩
    · exact absurd ⟨b1, b2, by rw [hl]; exact b3⟩ a1
  · rcases h2 with ⟨b1, b2, b3⟩ | ⟨b1, b2, b3, M3, ⟨_, _, b4, y1, b5, b6⟩, _⟩
    · exact absurd ⟨a1, a2, by rw [← hl]; exact a3⟩ b1
    · cases a5
      cases b5
      refine ⟨Int32.toInt_inj.mp ?_, by rw [a4, b4]⟩
      rcases a6 with ⟨a6, _⟩ | ⟨k, P, Q, P1, top, Mx, a6, a7, _⟩
      · rcases b6 with ⟨b6, _⟩ | ⟨k', P', Q', P1', Mx', b6, b7, _⟩
        · exact (a6.one b6).1
        · exact absurd (a6.one b6).2 (by omega)
      · rcases b6 with ⟨b6, _⟩ | ⟨k', P', Q', P1', Mx', b6, b7, _⟩
        · exact absurd (a6.one b6).2 (by omega)
        · have := (a6.one b6).2
          omega
end
/-- the text that is told: the first n bytes of the tape -/
def txt (M : Mem) (n : Int) (k : Int) : Int := bif decide (0 ≤ k) && decide (k < n) then (iv M 128 k.toNat).toInt else -1
theorem txt_in {M : Mem} {n : Int} {k : Nat} (h : (k : Int) < n) : txt M n k = (iv M 128 k).toInt := by
  unfold txt
  rw [decide_eq_true (show 0 ≤ (k : Int) by omega), decide_eq_true h]
  rfl
theorem txt_out {M : Mem} {n : Int} {k : Int} (h : n ≤ k) : txt M n k = -1 := by
  unfold txt
  rw [decide_eq_false (show ¬ k < n by omega), Bool.and_false]
  rfl
theorem txt_TX {M : Mem} {n : Int} (h0 : 0 ≤ n) (h1 : n ≤ 160) (hb : ∀ k : Nat, (k : Int) < n → iv M 128 k = iv M 202 k &&& (255 : Int32)) : TX M (txt M n) n := by
  have rg : ∀ k : Nat, (k : Int) < n → 0 ≤ (iv M 128 k).toInt ∧ (iv M 128 k).toInt ≤ 255 := fun k hk => by
    rw [hb k hk, and_255]
    omega
  refine ⟨⟨h0, h1⟩, fun k hk => ⟨txt_in hk, by rw [txt_in hk]; exact (rg k hk).1⟩, fun k hk => txt_out hk, fun k => ?_⟩
  by_cases a : 0 ≤ k
  · by_cases b : k < n
    · have q := rg k.toNat (by omega)
      have e := txt_in (M := M) (n := n) (k := k.toNat) (by omega)
      rw [show ((k.toNat : Nat) : Int) = k by omega] at e
      omega
    · rw [txt_out (by omega)]
      decide
  · unfold txt
    rw [decide_eq_false a]
    exact (by decide : (-1 : Int) ≤ -1 ∧ (-1 : Int) ≤ 255)
theorem txt_RTX {M M1 : Mem} {n : Int} (hb : ∀ k : Nat, (k : Int) < n → iv M 128 k = iv M 202 k &&& (255 : Int32)) (hf : ∀ c j, 169 ≤ c → mSlot M1 c j = mSlot M c j) : RTX M1 (txt M n) (fun k => (iv M 203 k).toInt) (fun k => (iv M 204 k).toInt) n := by
  refine ⟨fun k hk => ?_, fun k hk => txt_out hk, fun k => by rw [iv_sl (hf 203 k (by decide))], fun k => by rw [iv_sl (hf 204 k (by decide))]⟩
  rw [iv_sl (hf 202 k (by decide)), txt_in hk, ← hb k hk]
  refine ⟨rfl, ?_⟩
  rw [hb k hk, and_255]
  omega

/-! both laws leave programs that are alike -/
theorem qPk : ∀ k, k < 3 → qP (152 + 6 * k) 5 = true ∧ (∀ i, qP (152 + 6 * k + 1) i = true) ∧ (∀ i, qP (152 + 6 * k + 2) i = true) ∧ (∀ i, qP (152 + 6 * k + 3) i = true) ∧ (∀ i, qP (152 + 6 * k + 4) i = true) ∧ qP (152 + 6 * k) 1 = true := by
  intro k hk
  have e : k = 0 ∨ k = 1 ∨ k = 2 := by omega
  rcases e with rfl | rfl | rfl <;> exact ⟨rfl, fun _ => rfl, fun _ => rfl, fun _ => rfl, fun _ => rfl, rfl⟩
theorem pR_sl {X Y : Mem} {c i : Nat} (h : mSlot X c i = mSlot Y c i) : pR X c i = pR Y c i := by
  unfold pR
  rw [iv_sl h]
theorem pR_iv {X Y : Mem} {c i c' i' : Nat} (q : qP c i = true) (h : iv X c i = iv Y c' i') : pR X c i = (iv Y c' i').toInt := by rw [pR_at q, h]
theorem iv_out {M : Mem} {c i n : Nat} (hS : Sh M) (h2 : 2 ≤ c) (h3 : c < tEnd) (hn : tSiz (tGrp c) = n) (hi : n ≤ i) : iv M c i = 0 := by
  obtain ⟨fs, m, l, _⟩ := hS c h2 h3
  unfold iv
  rw [mSlot_eq m, List.getElem?_eq_none (by omega)]
section
variable {t : Int → Int} {f g : Nat → Int} {M M1 M2 : Mem}
/-- the class's side, in the law's own arrays -/
theorem XC_of {Mx : Mem} {F : Nat → Int} {i j a b e : Nat} {c sh sk : Int} (hi : i < 3) (hj : j < 12) (hSx : Sh Mx) (hc : CPY (152 + 6 * i) Mx M1) (h : PG Mx F j c a b e sh sk) (ht : (e : Int) + sk < (iv Mx 131 1).toInt) : XC (pR M1) (152 + 6 * i) F j c a b e sh sk := by
  obtain ⟨q0, q1, q2, q3, q4, q5⟩ := qPk i hi
  obtain ⟨hS1, _, c1, _, c4, c5⟩ := hc
  have sz : tSiz (tGrp (152 + 6 * i + 1)) = 160 ∧ 2 ≤ 152 + 6 * i + 1 ∧ 152 + 6 * i + 1 < tEnd := by
    have e : i = 0 ∨ i = 1 ∨ i = 2 := by omega
    rcases e with rfl | rfl | rfl <;> exact ⟨rfl, by decide, by decide⟩
  have cd : ∀ x, pR M1 (152 + 6 * i + 1) x = (iv Mx 132 x).toInt := fun x => by
    rw [pR_at (q1 x)]
    by_cases w : x < 160
    · rw [c4 x w]
    · rw [iv_out hS1 sz.2.1 sz.2.2 sz.1 (by omega), iv_out (c := 132) (n := 160) hSx (by decide) (by decide) rfl (by omega)]
  obtain ⟨g1, g2, g3, g4, g5, g6, g7, g8⟩ := h
  obtain ⟨d1, d2, d3⟩ := c5 j hj
  exact ⟨(pR_iv (q2 j) d1).trans g1, (pR_iv (q3 j) d2).trans g2, (pR_iv (q4 j) d3).trans g3, g4, fun x h1 h2 => (cd _).trans (g5 x h1 h2), fun h1 => (cd _).trans (g6 h1), fun x h1 h2 => (cd _).trans (g7 x h1 h2), (cd _).trans g8, by rw [pR_at q5, c1]; exact ht⟩
/-- the reference's side -/
theorem XR_of {Mx : Mem} {P1 : PS} {i j a b e n : Nat} {c : Int} (hj : j < n) (hn : (iv Mx 181 32).toInt = (n : Int)) (hC : RC Mx P1) (he : e ≤ P1.1.2.2.1) (hk : RLK Mx M2 i) (h : RG Mx j c a b e) : XR (pR M2) i P1.2.1 j c a b e := by
  obtain ⟨g1, g2, g3, g4⟩ := h
  obtain ⟨_, _, k3, _, k5, _⟩ := hk
  obtain ⟨_, _, r3, r4, r5, _⟩ := hC
  obtain ⟨d1, d2, d3, d4⟩ := k5 j (by omega)
  refine ⟨(pR_iv rfl d1).trans g1, ?_, ?_, ?_, by omega, fun x hx => ?_⟩
  · rw [pR_at rfl, d2, g2]
  · rw [pR_at rfl, d3, g3]
  · rw [pR_at rfl, d4, g4]
  · rw [pR_at rfl, k3 x (by omega)]
    exact r5 x (by omega)
theorem law_prog {i n x y : Int32} (h1 : LCR t f g i n M (some (.int x)) M1) (h2 : LRR t f g i n M1 (some (.int y)) M2) (hl : (iv M 127 1).toInt = (iv M1 181 25).toInt) (hP : ∀ k, k < 3 → xPk (pR M) k) : ∀ k, k < 3 → xPk (pR M2) k := by
  rcases h1 with ⟨a1, a2, a3⟩ | ⟨a1, a2, a3, aS, aZ, a4, x1, a5, a6⟩
  · rcases h2 with ⟨b1, b2, b3⟩ | ⟨b1, b2, b3, _⟩
    · rw [b3, a3]
      exact hP
    · exact absurd ⟨b1, b2, by rw [hl]; exact b3⟩ a1
  · rcases h2 with ⟨b1, b2, b3⟩ | ⟨b1, b2, b3, M3, ⟨bS, bZ, b4, y1, b5, b6⟩, b7, b8⟩
    · exact absurd ⟨a1, a2, by rw [← hl]; exact a3⟩ b1
    · -- what the reference leaves of the class's cells
      have lo : ∀ c j, c ≤ 180 → mSlot M2 c j = mSlot M1 c j := fun c j hc => (bZ c j (fun q => absurd q (by omega)) (by omega)).trans (b7 c j (fun q => absurd q (by omega)) (by omega))
      have hi3 : ∀ c j, 208 < c → mSlot M3 c j = mSlot M1 c j := fun c j hc => b8 c j (by omega)
      rcases a6 with ⟨a6, a7⟩ | ⟨k, P, Q, P1, top, Mx, a6, _, ars, aq, ae, ag, an, atp, aSx, af, ac⟩
      · rcases b6 with ⟨b6, b9⟩ | ⟨k', P', Q', P1', Mx', b6, _⟩
        · have e : pR M2 = pR M := pR_same (fun c j hq => by
            by_cases w : c ≤ 180
            · rw [lo c j w]
              exact a7 c j (by
                simp only [qP, tProP, Bool.or_eq_true, Bool.and_eq_true, Nat.beq_eq, Nat.ble_eq] at hq
                omega)
            · have w2 : 208 < c := by
                simp only [qP, tProP, Bool.or_eq_true, Bool.and_eq_true, Nat.beq_eq, Nat.ble_eq] at hq
                omega
              rw [b9 c j w2, hi3 c j w2]
              exact a7 c j (by omega))
          rw [e]
          exact hP
        · exact absurd (a6.one b6).2 (by omega)
      · rcases b6 with ⟨b6, _⟩ | ⟨k', P', Q', P1', Mx', b6, _, bs, bk, bq, be, bC, bg, bn, bY, bL⟩
        · exact absurd (a6.one b6).2 (by omega)
        · have ek : k' = k := by have := (a6.one b6).2; omega
          subst ek
          have e1 := bs.one ars
          subst e1
          have e2 := bq.one aq
          subst e2
          have e3 := be.one ae
          subst e3
          have hY : ∀ c j, 208 < c → mSlot Mx' c j = mSlot M1 c j := fun c j hc => (bY c j (fun q => absurd q (by omega)) (Or.inr hc)).trans (hi3 c j hc)
          have hz : ∀ c j, 208 < c → mSlot M1 c j = mSlot M c j := fun c j hc => aZ c j (fun q => absurd q (by omega)) (by omega) (by omega)
          intro q hq
          by_cases w : q = i.toInt.toNat
          · subst w
            obtain ⟨q0, _⟩ := qPk _ hq
            have m : ∀ c z, c ≤ 180 → pR M2 c z = pR M1 c z := fun c z hc => pR_sl (lo c z hc)
            refine ⟨t, f, g, P1'.2.1, k' + 1, by omega, ?_, ?_, fun _ => ⟨P', Q', P1', bs, bq, be, rfl⟩, fun j hj => ?_⟩
            · rw [m (152 + 6 * i.toInt.toNat) 5 (by omega), pR_at q0, ac.2.2.2.1, an]
              rfl
            · rw [pR_at rfl, bL.1, bn]
              rfl
            · obtain ⟨A, B, E, sh, sk, r1, r2, r3, r4, r5, r6⟩ := ag j hj
              have r7 := r6
              obtain ⟨A', B', E', s1, s2, s3, s4, s5⟩ := bg j hj
              have f1 := s1.one r1
              subst f1
              have f2 := s2.one r2
              subst f2
              have f3 := s3.one r3
              subst f3
              have hX := XC_of hq (show j < 12 by omega) aSx ac r4 (by rw [atp]; omega)
              refine ⟨A', B', E', sh, sk, s1, s2, s3, ?_, XR_of (n := k' + 1) hj (by rw [bn]; rfl) bC s5 bL s4⟩
              obtain ⟨x1, x2, x3, x4, x5, x6, x7, x8, x9⟩ := hX
              exact ⟨(m _ _ (by omega)).trans x1, (m _ _ (by omega)).trans x2, (m _ _ (by omega)).trans x3, x4, fun z y1 y2 => (m _ _ (by omega)).trans (x5 z y1 y2), fun y1 => (m _ _ (by omega)).trans (x6 y1), fun z y1 y2 => (m _ _ (by omega)).trans (x7 z y1 y2), (m _ _ (by omega)).trans x8, by rw [m _ 1 (by omega)]; exact x9⟩
          · have cl : ∀ c z, 152 + 6 * q ≤ c → c ≤ 152 + 6 * q + 4 → mSlot M2 c z = mSlot M c z := fun c z h1 h2 => by
              rw [lo c z (by omega), ac.2.1 c z (by omega) (by omega)]
              exact af c z (by omega) (fun q => absurd q (by omega))
            obtain ⟨_, l2, _, l4, _, l6⟩ := bL
            have up : ∀ c j, 208 < c → iv Mx' c j = iv M c j := fun c j hc => iv_sl ((hY c j hc).trans (hz c j hc))
            refine xPk_to (pR_sl (cl _ _ (by omega) (by omega))) (pR_sl (cl _ _ (by omega) (by omega))) (fun z => ⟨pR_sl (cl _ _ (by omega) (by omega)), pR_sl (cl _ _ (by omega) (by omega)), pR_sl (cl _ _ (by omega) (by omega)), pR_sl (cl _ _ (by omega) (by omega))⟩) ?_ (fun z hz2 => ?_) (fun j hj => ?_) (hP q hq)
            · rw [pR_at rfl, pR_at rfl, l2 q w, up 210 q (by decide)]
            · rw [pR_at rfl, pR_at rfl, l4 _ (by omega), up 209 _ (by decide)]
            · obtain ⟨z1, z2, z3, z4⟩ := l6 (12 * q + j) (by omega)
              refine ⟨?_, ?_, ?_, ?_⟩
              · rw [pR_at rfl, pR_at rfl, z1, up 211 _ (by decide)]
              · rw [pR_at rfl, pR_at rfl, z2, up 212 _ (by decide)]
              · rw [pR_at rfl, pR_at rfl, z3, up 213 _ (by decide)]
              · rw [pR_at rfl, pR_at rfl, z4, up 214 _ (by decide)]
end
/-- the ghost that says whether the programs are alike is set -/
theorem flg_set {s : List Int32} {γ : Gh} {M : Mem} {v : Int32} (h : aMem (s, γ) M) (hP : xP (gUp γ 1021 0 v) M) : aMem (s, gUp γ 1021 0 v) M := by
  have h9 := aMem_to9 h
  have q : tXI γ M := h.2.2.2
  have m0 : aMem0 (s, gUp γ 1021 0 v) M := aMem_mk (show x8 (s, γ) from h.1.2.1) (aTp_of (aMem_0 h9)) ⟨q.1, q.2.1, q.2.2.1, q.2.2.2.1, q.2.2.2.2.1, q.2.2.2.2.2.1, q.2.2.2.2.2.2⟩
  have hg : gFr [(1021, 0)] γ (gUp γ 1021 0 v) := gFr_up rfl gFr.rf
  have hx9 : x9 γ M := h9.1.2.2
  exact aMem_of9 (aMem_9 m0 (x9_fr (mod := [(1021, 0)]) aFr.rf hg rfl hx9)) (x10_fr0 (mod := [(1021, 0)]) aFr.rf hg rfl hP (xK_fr (mod := [(1021, 0)]) aFr.rf hg rfl (aMem_x10 h).2.2.2.2.2) (aMem_x10 h)) (xO_fr (mod := [(1021, 0)]) aFr.rf hg rfl (aMem_xO h))

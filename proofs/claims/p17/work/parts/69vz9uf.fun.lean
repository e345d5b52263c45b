/-! knowledge is laid alike (by hand) -/
/-- what is read when knowledge is laid -/
def qLk (c i : Nat) : Prop := (c = 181 ∧ (i = 0 ∨ i = 15 ∨ i = 16)) ∨ (182 ≤ c ∧ c ≤ 199)
theorem lysK_of {M N : Mem} {n : Nat} (hb : lB M) (hS : Sh N) (hA : AL M M n) (h93 : 0 ≤ (iv M 93 3).toInt) (c15 : (iv M 181 15).toInt = (iv M 93 3).toInt) (c16 : (iv M 181 16).toInt = (iv M 93 6).toInt) (hk : kHW M 93 195) (hc : ∀ d, d < n → ∀ p, p < 10 → (iv M (100 + p) d).toInt = knO M d d p) (e : ∀ c i, qLk c i → iv N c i = iv M c i) : lysK M N n := by
  intro n' d' r N1 h
  obtain ⟨kh, π, kp, kw⟩ := hk
  have e1 : ∀ c i, 182 ≤ c → c ≤ 199 → iv N c i = iv M c i := fun c i a b => e c i (by unfold qLk; omega)
  have e0 : iv N 181 0 = iv M 181 0 := e 181 0 (by unfold qLk; omega)
  have e15 : iv N 181 15 = iv M 181 15 := e 181 15 (by unfold qLk; omega)
  have e16 : iv N 181 16 = iv M 181 16 := e 181 16 (by unfold qLk; omega)
  have hB : lB N := lB_same hb hS (fun c i q => e c i (by unfold qLk; omega))
  have hπ : knP (fun k => (iv N 198 k).toInt) (iv N 181 16).toInt.toNat π := by
    rw [e16, c16]
    exact knP_congr (fun k _ => by rw [e1 198 k (by decide) (by decide)]) kp
  have hA2 : AL M N n := AL_r hA (fun c i q => by
    rcases q with ⟨rfl, rfl⟩ | q
    · exact e0
    · exact e1 c i (by omega) (by omega))
  obtain ⟨er, hS1, fk, hf⟩ := lays_en hB hπ h
  refine ⟨er, hS1, fk, fun p hp d hd => ?_⟩
  have hd2 : d < (iv N 181 0).toInt.toNat := by
    rw [hA2.2.2.1]
    omega
  refine Int32.toInt_inj.mp ((hf d hd2 p hp).trans ?_)
  rw [hc d hd p hp]
  exact (knO_ref (π := π) hA2 hd hp (fun k hk => by rw [e1 195 k (by decide) (by decide), e1 196 k (by decide) (by decide), e1 197 k (by decide) (by decide)]; exact kh k hk) h93 (fun k hk => by rw [e1 198 (π k) (by decide) (by decide), e1 199 (π k) (by decide) (by decide)]; exact kw k hk) (by rw [e15]; exact c15) (by rw [e16]; exact c16)).symm
/-- all that class and reference hold alike, as what asks of chains needs it -/
def Bth (M : Mem) (n : Nat) : Prop := (Sh M ∧ Rf M ∧ gvC M) ∧ AR M M n ∧ (∀ N, Sh N → (∀ c i, qLk c i → iv N c i = iv M c i) → lysK M N n) ∧ (∃ W, lwOk M W) ∧ (∀ e, e < 40 → 0 ≤ (iv M (10 + e) 3).toInt ∧ (iv M (10 + e) 3).toInt ≤ 999) ∧ (∀ s, s < 8 → (0 ≤ (iv M 6 s).toInt ∧ (iv M 6 s).toInt ≤ 2) ∧ 0 ≤ (iv M 5 s).toInt ∧ (iv M 5 s).toInt ≤ 9) ∧ (∀ k, k < 40 → 0 ≤ (iv M 9 k).toInt ∧ (iv M 9 k).toInt ≤ 39) ∧ okLs M
theorem bth_of {s : List Int32} {γ : Gh} {M : Mem} {n : Nat} (hM : aMem (s, γ) M) (hn : n ≤ 40) (o0 : (γ 1030 2).toInt = 0) (on : (γ 1030 0).toInt = (n : Int)) (c72 : (iv M 7 2).toInt = (n : Int)) (c181 : (iv M 181 0).toInt = (n : Int)) (k0 : (γ 1022 0).toInt = (n : Int)) (g0 : (γ 1023 0).toInt = 0) (f0 : (γ 1021 0).toInt = 0) (d0 : (γ 1045 0).toInt = 0) (c15 : (iv M 181 15).toInt = (iv M 93 3).toInt) (c16 : (iv M 181 16).toInt = (iv M 93 6).toInt) (o24 : (γ 1024 0).toInt = 0) : Bth M n := by
  have hx := aMem_x10 hM
  have hT := aTp_of (aMem_0 (aMem_to9 hM))
  have hAL := AL_of hM hn o0 on c72 c181
  have hx9 : x9 γ M := (aMem_to9 hM).1.2.2
  have fd : ∀ e, e < 40 → ∀ f lo hi, tTy 10 f = (1, lo, hi, []) → f < 10 → lo ≤ (iv M (10 + e) f).toInt ∧ (iv M (10 + e) f).toInt ≤ hi := fun e he f lo hi ht hf => iv_ty hT (c := 10 + e) (i := f) (by omega) (by show 10 + e < 242; omega) (by rw [grp10 e he]; exact hf) (gs := []) (by rw [grp10 e he]; exact ht)
  have hP : pvC M := fun e he => ⟨fd e he 0 0 9 rfl (by decide), (fd e he 1 0 9 rfl (by decide)).1⟩
  have h93 := iv_ty hT (c := 93) (i := 3) (by decide) (by decide) (by decide) (lo := 0) (hi' := 60) (gs := []) rfl
  have kA0 := (hx.2.2.2.2.2.1.1 g0).1
  have hxP : ∀ k, k < 3 → xPk (pR M) k := hx.2.2.2.1 f0
  refine ⟨⟨Sh.of hT, hx.1, fun e he => by have := (hP e he).1; omega⟩, ⟨hAL, fun p hp => ?_, fun q hq => by unfold iv; rw [(hx.2.1 q hq).2], hP, fun e he => (fd e he 1 0 9 rfl (by decide)).2⟩, fun N hS e => lysK_of (lB_of hT) hS hAL h93.1 c15 c16 kA0 (fun d hd p hp => hx.2.2.2.2.2.2 d (by omega) (show (d : Int) < (γ 1022 0).toInt by omega) p hp) e, ?_, fun e he => fd e he 3 0 999 rfl (by decide), fun q hq => ⟨iv_ty hT (c := 6) (i := q) (by decide) (by decide) hq (lo := 0) (hi' := 2) (gs := []) rfl, iv_ty hT (c := 5) (i := q) (by decide) (by decide) hq (lo := 0) (hi' := 9) (gs := []) rfl⟩, fun k hk => iv_ty hT (c := 9) (i := k) (by decide) (by decide) hk (lo := 0) (hi' := 39) (gs := []) rfl, aMem_xO hM o24⟩
  · obtain ⟨v, v1, _, _⟩ := hT.int (c := 4) (i := p) (by decide) (by decide) hp (lo := -1) (hi' := 999) (gs := []) rfl
    obtain ⟨u, u1, _, _⟩ := hT.int (c := 182) (i := p) (by decide) (by decide) hp (lo := -1) (hi' := 999) (gs := []) rfl
    have ev := yV_get (t := 6) (f := 0) (d := p) (yOk_s hp rfl) v1
    have eu := yV_get (t := 7) (f := 0) (d := p) (yOk_s hp rfl) u1
    have e := hx9.2.2.2.2.2.2.1 p hp (Or.inl d0)
    rw [iv_of v1, iv_of u1]
    exact Int32.toInt_inj.mp (by omega)
  · have key : ∀ k, ∃ w, k < 3 → WOk (pR M) k w := fun k => by
      by_cases q : k < 3
      · obtain ⟨w, hw⟩ := WOk_of (hxP k q)
        exact ⟨w, fun _ => hw⟩
      · exact ⟨(fun _ => 0, 0, fun _ => 0, fun _ => 0, fun _ => 0, fun _ => 0, fun _ => 0, fun _ => 0), fun c => absurd c q⟩
    obtain ⟨W, hW⟩ := Classical.axiomOfChoice key
    refine ⟨W, fun k hk => ⟨hW k hk, ?_⟩⟩
    have e : k = 0 ∨ k = 1 ∨ k = 2 := by omega
    rcases e with rfl | rfl | rfl
    · exact (iv_ty hT (c := 152) (i := 1) (by decide) (by decide) (by decide) (lo := 0) (hi' := 160) (gs := []) rfl).2
    · exact (iv_ty hT (c := 158) (i := 1) (by decide) (by decide) (by decide) (lo := 0) (hi' := 160) (gs := []) rfl).2
    · exact (iv_ty hT (c := 164) (i := 1) (by decide) (by decide) (by decide) (lo := 0) (hi' := 160) (gs := []) rfl).2

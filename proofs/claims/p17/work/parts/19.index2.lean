section JIX2
variable {l : Launch} {cs cv : Nat} {A : Nat → Prop}
/-- what is left of the String from place k on: where v stands in it -/
def jIx (v : Int32) : List Int32 → Nat → Int32
  | [], _ => -1
  | y :: r, k => if y = v then Int32.ofNat k else jIx v r (k + 1)
theorem jIx_ok : (List.range 256).all (fun n => decide (jIx (Int32.ofNat n).toInt8.toInt32 mLet 0 = mIxOf (Int32.ofNat n))) = true := by decide +kernel
theorem jIx_eq {x : Int32} (h0 : ¬ x < 0) (h1 : ¬ 255 < x) : jIx x.toInt8.toInt32 mLet 0 = mIxOf x := by
  obtain ⟨n, hn, rfl⟩ := nI_of2 (M := 255) (n := 255) rfl h0 (Int32.not_lt.mp h1)
  exact of_decide_eq_true (List.all_eq_true.mp jIx_ok n (List.mem_range.mpr (by omega)))
theorem jIx_out {x : Int32} (h : x < 0 ∨ 255 < x) : mIxOf x = -1 := by
  have hne : ∀ y ∈ mLet, ¬ y = x := by
    intro y hy he
    subst he
    have : (mLet.all (fun z => decide (¬ z < 0 ∧ ¬ 255 < z))) = true := by decide +kernel
    have := of_decide_eq_true (List.all_eq_true.mp this y hy)
    rcases h with h | h
    · exact this.1 h
    · exact this.2 h
  have : mLet.findIdx? (fun y => y == x) = none := List.findIdx?_eq_none_iff.mpr (fun y hy => by simpa using hne y hy)
  unfold mIxOf
  rw [this]
set_option maxRecDepth 100000 in
set_option maxHeartbeats 4000000 in
theorem jchr (x : Int32) : jMet l cs cv A jChr 0 [.ref cv, .int x, .int 0, .int 14] (jIx x.toInt8.toInt32 mLet 0) := by
  refine jOf (by decide) (Nat.le_of_ble_eq_true rfl) fun p e s m below meth c ls hc hl => ?_
  obtain ⟨hx, hb, hml, hown, hts, hr, hlocks, h1, h2⟩ := id hc
  have hT := (h1.1 0 (by omega)).2.2.2
  have hl : lv_has ls 6 [(0, .ref cv), (1, .int x), (2, .int 0), (3, .int 14)] := hl
  generalize hv : x.toInt8.toInt32 = v
  have loop : ∀ (r : List Int32) (k : Nat) (ls : Array Slot), mLet.drop k = r → k ≤ 14 → lv_has ls 6 [(5, .int (nI k)), (4, .int v), (0, .ref cv), (3, .int 14)] → jIx v mLet 0 = jIx v r k → W p l e (mRm 0 0 0) s m [Value.ref cv, .int x, .int 0, .int 14].toArray below meth c s.heap [] 0 0 (MQ below (jQ (jIx v mLet 0)) [Value.ref cv, .int x, .int 0, .int 14].toArray s 0 0 A) (F0 m 7 ls []) := by
    intro r
    induction r with
    | nil =>
      intro k ls hdr hk hl he
      have hk14 : k = 14 := by
        have := List.drop_eq_nil_iff.mp hdr
        have h14 : mLet.length = 14 := rfl
        omega
      subst hk14
      refine lv_iload hx hb (show decode jChr.2.1 7 = .ok (.iload 5, 2) by decide +kernel) (lv_at hl 0 rfl) ?_
      refine lv_iload_n (i := 3) hx hb (show decode jChr.2.1 9 = .ok (.iload_n 3, 1) by decide +kernel) rfl (lv_at hl 3 rfl) ?_
      refine lv_icmp_ge (tgt := 31) hx hb (show decode jChr.2.1 10 = .ok (.if_icmp .ge 21, 3) by decide +kernel) (by decide) (fun h => ?_) (fun h => absurd (show (14 : Int32) ≤ nI 14 by decide) h)
      refine lv_iconst (v := -1) hx hb (show decode jChr.2.1 31 = .ok (.iconst (-1), 1) by decide +kernel) (by decide) ?_
      rw [he]
      exact W.iret hx hb hr (fun t ht hW => ⟨rfl, ht⟩) jNil (show decode jChr.2.1 32 = .ok (.ireturn, 1) by decide +kernel)
    | cons y r ih =>
      intro k ls hdr hk hl he
      have hlt : k < 14 := by
        rcases Nat.lt_or_ge k 14 with h | h
        · exact h
        · have : mLet.drop k = [] := List.drop_eq_nil_of_le h
          rw [this] at hdr; cases hdr
      have hy : mLet.getD k 0 = y := by
        have h14 : k < mLet.length := hlt
        have := List.drop_eq_getElem_cons h14
        rw [this] at hdr
        rw [List.getD_eq_getElem?_getD, List.getElem?_eq_getElem h14]
        exact (List.cons.inj hdr).1
      have hdr2 : mLet.drop (k + 1) = r := dc_drop hdr
      refine lv_iload hx hb (show decode jChr.2.1 7 = .ok (.iload 5, 2) by decide +kernel) (lv_at hl 0 rfl) ?_
      refine lv_iload_n (i := 3) hx hb (show decode jChr.2.1 9 = .ok (.iload_n 3, 1) by decide +kernel) rfl (lv_at hl 3 rfl) ?_
      refine lv_icmp_ge (tgt := 31) hx hb (show decode jChr.2.1 10 = .ok (.if_icmp .ge 21, 3) by decide +kernel) (by decide) (fun h => absurd h (nI_ge (b := 14) hlt (by decide))) (fun _ => ?_)
      refine lv_aload_n (i := 0) hx hb (show decode jChr.2.1 13 = .ok (.aload_n 0, 1) by decide +kernel) rfl (lv_at hl 2 rfl) ?_
      refine lv_iload hx hb (show decode jChr.2.1 14 = .ok (.iload 5, 2) by decide +kernel) (lv_at hl 0 rfl) ?_
      refine va_tb (v := .int y) hx hb hT (jS jNil) (vp_in_nI hlt (by decide)) (by rw [nI_clamp (by omega)]; show Value.int (mLet.getD k 0) = _; rw [hy]) (show decode jChr.2.1 16 = .ok (.baload, 1) by decide +kernel) ?_
      refine lv_iload hx hb (show decode jChr.2.1 17 = .ok (.iload 4, 2) by decide +kernel) (lv_at hl 1 rfl) ?_
      refine lv_icmp_ne (tgt := 25) hx hb (show decode jChr.2.1 19 = .ok (.if_icmp .ne 6, 3) by decide +kernel) (by decide) (fun h => ?_) (fun h => ?_)
      · refine lv_iinc (v := nI (k + 1)) (lv' := [(5, .int (nI (k + 1))), (4, .int v), (0, .ref cv), (3, .int 14)]) hx hb (show decode jChr.2.1 25 = .ok (.iinc 5 1, 3) by decide +kernel) hl (k := 0) rfl (nI_succ k).symm (by decide) rfl (fun ls hl => ?_)
        refine lv_goto (tgt := 7) hx hb (show decode jChr.2.1 28 = .ok (.goto (-21), 3) by decide +kernel) (by decide) ?_
        exact ih (k + 1) ls hdr2 (by omega) hl (by rw [he]; exact if_neg h)
      · have hyv : y = v := h
        refine lv_iload hx hb (show decode jChr.2.1 22 = .ok (.iload 5, 2) by decide +kernel) (lv_at hl 0 rfl) ?_
        have e : jIx v mLet 0 = nI k := by rw [he]; exact if_pos hyv
        rw [e]
        exact W.iret hx hb hr (fun t ht hW => ⟨rfl, ht⟩) jNil (show decode jChr.2.1 24 = .ok (.ireturn, 1) by decide +kernel)
  refine lv_iload_n (i := 1) hx hb (show decode jChr.2.1 0 = .ok (.iload_n 1, 1) by decide +kernel) rfl (lv_at hl 1 rfl) ?_
  refine lv_i2b hx hb (show decode jChr.2.1 1 = .ok (.i2b, 1) by decide +kernel) hv ?_
  refine lv_istore (lv' := [(4, .int v), (0, .ref cv), (1, .int x), (2, .int 0), (3, .int 14)]) hx hb (show decode jChr.2.1 2 = .ok (.istore 4, 2) by decide +kernel) hl (by decide) rfl (fun ls hl => ?_)
  refine lv_iload_n (i := 2) hx hb (show decode jChr.2.1 4 = .ok (.iload_n 2, 1) by decide +kernel) rfl (lv_at hl 3 rfl) ?_
  refine lv_istore (lv' := [(5, .int 0), (4, .int v), (0, .ref cv), (1, .int x), (2, .int 0), (3, .int 14)]) hx hb (show decode jChr.2.1 5 = .ok (.istore 5, 2) by decide +kernel) hl (by decide) rfl (fun ls hl => ?_)
  exact loop mLet 0 ls rfl (by omega) (lv_sub hl [0, 1, 2, 5] rfl) rfl
set_option maxRecDepth 100000 in
set_option maxHeartbeats 4000000 in
theorem jlix (x : Int32) : jMet l cs cv A jLix 2 [.ref cv, .int x, .int 0, .int 14] (mIxOf x) := by
  refine jOf (by decide) (Nat.le_of_ble_eq_true rfl) fun p e s m below meth c ls hc hl => ?_
  obtain ⟨hx, hb, hml, hown, hts, hr, hlocks, h1, h2⟩ := id hc
  have hT := (h1.1 0 (by omega)).2.2.2
  have hl : lv_has ls 4 [(0, .ref cv), (1, .int x), (2, .int 0), (3, .int 14)] := hl
  refine lv_iload_n (i := 1) hx hb (show decode jLix.2.1 0 = .ok (.iload_n 1, 1) by decide +kernel) rfl (lv_at hl 1 rfl) ?_
  refine jCallS (n := 0) (as := [.int x]) (rest := []) hc (jcan x) (jW 6 rfl) (jW 9 rfl) (jW 25 rfl) (jW 26 rfl) ⟨by decide, by decide, by show _ = some 1; decide +kernel⟩ (by omega) (by decide) hl.1 (Nat.le_of_ble_eq_true rfl) (show decode jLix.2.1 1 = .ok (.invokestatic 88, 3) by decide +kernel) jNil fun locs hlo => ?_
  refine lv_if_ne (tgt := 9) hx hb (show decode jLix.2.1 4 = .ok (.ifCond .ne 5, 3) by decide +kernel) (by decide) (fun h => ?_) (fun h => ?_)
  · have h0 : ¬ x < 0 := fun z => h (if_pos z)
    have h255 : ¬ 255 < x := fun z => h (by rw [if_neg h0, if_pos z])
    refine lv_iload_n (i := 2) hx hb (show decode jLix.2.1 9 = .ok (.iload_n 2, 1) by decide +kernel) rfl (lv_at hl 2 rfl) ?_
    refine lv_iconst (v := 0) hx hb (show decode jLix.2.1 10 = .ok (.iconst 0, 1) by decide +kernel) (by decide) ?_
    refine va_mmax (rest := []) hx hb (hml.trans hl.1.symm) hown (hts _ (jW 29 rfl)) (hts _ (mAw (by simp))) (hts _ (mAw (by simp))) (hts _ (mAw (by simp))) (by show 1 ≤ 2; omega) (by show 0 + 13 ≤ 64 * 2; omega) (Nat.le_refl _) (Nat.le_refl _) (show decode jLix.2.1 11 = .ok (.invokestatic 92, 3) by decide +kernel) ?_
    refine lv_istore_n (i := 2) (x := 0) (lv' := [(2, .int 0), (0, .ref cv), (1, .int x), (3, .int 14)]) hx hb (show decode jLix.2.1 14 = .ok (.istore_n 2, 1) by decide +kernel) rfl hl (by decide) rfl (fun ls hl => ?_)
    refine lv_iload_n (i := 3) hx hb (show decode jLix.2.1 15 = .ok (.iload_n 3, 1) by decide +kernel) rfl (lv_at hl 3 rfl) ?_
    refine lv_aload_n (i := 0) hx hb (show decode jLix.2.1 16 = .ok (.aload_n 0, 1) by decide +kernel) rfl (lv_at hl 1 rfl) ?_
    refine va_tlen (v := 14) hx hb hT (jS hlo) rfl (show decode jLix.2.1 17 = .ok (.arraylength, 1) by decide +kernel) ?_
    refine va_mmin (rest := []) hx hb (hml.trans hl.1.symm) hown (hts _ (jW 30 rfl)) (hts _ (mAw (by simp))) (hts _ (mAw (by simp))) (hts _ (mAw (by simp))) (by show 1 ≤ 2; omega) (by show 0 + 13 ≤ 64 * 2; omega) (Nat.le_refl _) (Nat.le_refl _) (show decode jLix.2.1 18 = .ok (.invokestatic 38, 3) by decide +kernel) ?_
    refine lv_istore_n (i := 3) (x := 14) (lv' := [(3, .int 14), (2, .int 0), (0, .ref cv), (1, .int x)]) hx hb (show decode jLix.2.1 21 = .ok (.istore_n 3, 1) by decide +kernel) rfl hl (by decide) rfl (fun ls hl => ?_)
    refine lv_iload_n (i := 2) hx hb (show decode jLix.2.1 22 = .ok (.iload_n 2, 1) by decide +kernel) rfl (lv_at hl 1 rfl) ?_
    refine lv_iload_n (i := 3) hx hb (show decode jLix.2.1 23 = .ok (.iload_n 3, 1) by decide +kernel) rfl (lv_at hl 0 rfl) ?_
    refine lv_icmp_lt (tgt := 29) hx hb (show decode jLix.2.1 24 = .ok (.if_icmp .lt 5, 3) by decide +kernel) (by decide) (fun _ => ?_) (fun h => absurd (by decide) h)
    refine lv_aload_n (i := 0) hx hb (show decode jLix.2.1 29 = .ok (.aload_n 0, 1) by decide +kernel) rfl (lv_at hl 2 rfl) ?_
    refine lv_iload_n (i := 1) hx hb (show decode jLix.2.1 30 = .ok (.iload_n 1, 1) by decide +kernel) rfl (lv_at hl 3 rfl) ?_
    refine lv_iload_n (i := 2) hx hb (show decode jLix.2.1 31 = .ok (.iload_n 2, 1) by decide +kernel) rfl (lv_at hl 1 rfl) ?_
    refine lv_iload_n (i := 3) hx hb (show decode jLix.2.1 32 = .ok (.iload_n 3, 1) by decide +kernel) rfl (lv_at hl 0 rfl) ?_
    refine jCallS (n := 0) (as := [.ref cv, .int x, .int 0, .int 14]) (rest := []) hc (jchr x) (jW 7 rfl) (jW 9 rfl) (jW 27 rfl) (jW 28 rfl) ⟨by decide, by decide, by show _ = some 4; decide +kernel⟩ (by omega) (by decide) hl.1 (Nat.le_of_ble_eq_true rfl) (show decode jLix.2.1 33 = .ok (.invokestatic 95, 3) by decide +kernel) hlo fun locs hlo => ?_
    rw [jIx_eq h0 h255]
    exact W.iret hx hb hr (fun t ht hW => ⟨rfl, ht⟩) hlo (show decode jLix.2.1 36 = .ok (.ireturn, 1) by decide +kernel)
  · have hout : x < 0 ∨ 255 < x := by
      by_cases h0 : x < 0
      · exact Or.inl h0
      · by_cases h255 : 255 < x
        · exact Or.inr h255
        · rw [if_neg h0, if_neg h255] at h
          exact absurd h (by decide)
    refine lv_iconst (v := -1) hx hb (show decode jLix.2.1 7 = .ok (.iconst (-1), 1) by decide +kernel) (by decide) ?_
    rw [jIx_out hout]
    exact W.iret hx hb hr (fun t ht hW => ⟨rfl, ht⟩) hlo (show decode jLix.2.1 8 = .ok (.ireturn, 1) by decide +kernel)
set_option maxRecDepth 100000 in
theorem jcod : jMet l cs cv A jCod 0 [.ref cs] 0 := by
  refine jOf (by decide) (Nat.le_of_ble_eq_true rfl) fun p e s m below meth c ls hc hl => ?_
  obtain ⟨hx, hb, hml, hown, hts, hr, hlocks, h1, h2⟩ := id hc
  have hl : lv_has ls 1 [(0, .ref cs)] := hl
  refine va_gets hx hb h2 (jS jNil) hown (hts _ (jW 31 rfl)) (fun _ h => h) (show decode jCod.2.1 0 = .ok (.getstatic 38, 3) by decide +kernel) ?_
  refine lv_if_eq (tgt := 13) hx hb (show decode jCod.2.1 3 = .ok (.ifCond .eq 10, 3) by decide +kernel) (by decide) (fun h => absurd h (by decide)) (fun _ => ?_)
  refine lv_aload_n (i := 0) hx hb (show decode jCod.2.1 6 = .ok (.aload_n 0, 1) by decide +kernel) rfl (lv_at hl 0 rfl) ?_
  refine vk_getf hx hb (h1.1 0 (by omega)).2.1 (jS jNil) hown (hts _ (jW 32 rfl)) (fun _ h => h) (show decode jCod.2.1 7 = .ok (.getfield 15, 3) by decide +kernel) ?_
  refine lv_goto (tgt := 14) hx hb (show decode jCod.2.1 10 = .ok (.goto 4, 3) by decide +kernel) (by decide) ?_
  exact W.zret (ty := .byte) hx hb hr rfl (fun t ht hW => ⟨rfl, ht⟩) jNil (show decode jCod.2.1 14 = .ok (.ireturn, 1) by decide +kernel)
set_option maxRecDepth 100000 in
theorem jlen : jMet l cs cv A jLen 1 [.ref cs] 14 := by
  refine jOf (by decide) (Nat.le_of_ble_eq_true rfl) fun p e s m below meth c ls hc hl => ?_
  obtain ⟨hx, hb, hml, hown, hts, hr, hlocks, h1, h2⟩ := id hc
  have hT := (h1.1 0 (by omega)).2.2.2
  have hl : lv_has ls 1 [(0, .ref cs)] := hl
  refine lv_aload_n (i := 0) hx hb (show decode jLen.2.1 0 = .ok (.aload_n 0, 1) by decide +kernel) rfl (lv_at hl 0 rfl) ?_
  refine vk_getf hx hb (h1.1 0 (by omega)).2.2.1 (jS jNil) hown (hts _ (jW 33 rfl)) (fun _ h => h) (show decode jLen.2.1 1 = .ok (.getfield 9, 3) by decide +kernel) ?_
  refine va_tlen (v := 14) hx hb hT (jS jNil) rfl (show decode jLen.2.1 4 = .ok (.arraylength, 1) by decide +kernel) ?_
  refine lv_aload_n (i := 0) hx hb (show decode jLen.2.1 5 = .ok (.aload_n 0, 1) by decide +kernel) rfl (lv_at hl 0 rfl) ?_
  refine jCallV (n := 0) (as := []) (rest := [.int 14]) hc jcod rfl (jW 4 rfl) (jW 8 rfl) (jW 20 rfl) (jW 21 rfl) (jW 22 rfl) ⟨by decide, by decide, by show _ = some 0; decide +kernel⟩ (by omega) (by decide) hl.1 (Nat.le_of_ble_eq_true rfl) (show decode jLen.2.1 6 = .ok (.invokevirtual 335, 3) by decide +kernel) jNil fun locs hlo => ?_
  refine lv_ishr hx hb (show decode jLen.2.1 9 = .ok (.ishr, 1) by decide +kernel) ?_
  exact W.iret hx hb hr (fun t ht hW => ⟨rfl, ht⟩) hlo (show decode jLen.2.1 10 = .ok (.ireturn, 1) by decide +kernel)
set_option maxRecDepth 100000 in
theorem jlat : jMet l cs cv A jLat 0 [.ref cs] 1 := by
  refine jOf (by decide) (Nat.le_of_ble_eq_true rfl) fun p e s m below meth c ls hc hl => ?_
  obtain ⟨hx, hb, hml, hown, hts, hr, hlocks, h1, h2⟩ := id hc
  have hl : lv_has ls 1 [(0, .ref cs)] := hl
  refine va_gets hx hb h2 (jS jNil) hown (hts _ (jW 31 rfl)) (fun _ h => h) (show decode jLat.2.1 0 = .ok (.getstatic 38, 3) by decide +kernel) ?_
  refine lv_if_eq (tgt := 17) hx hb (show decode jLat.2.1 3 = .ok (.ifCond .eq 14, 3) by decide +kernel) (by decide) (fun h => absurd h (by decide)) (fun _ => ?_)
  refine lv_aload_n (i := 0) hx hb (show decode jLat.2.1 6 = .ok (.aload_n 0, 1) by decide +kernel) rfl (lv_at hl 0 rfl) ?_
  refine vk_getf hx hb (h1.1 0 (by omega)).2.1 (jS jNil) hown (hts _ (jW 32 rfl)) (fun _ h => h) (show decode jLat.2.1 7 = .ok (.getfield 15, 3) by decide +kernel) ?_
  refine lv_if_ne (tgt := 17) hx hb (show decode jLat.2.1 10 = .ok (.ifCond .ne 7, 3) by decide +kernel) (by decide) (fun h => absurd rfl h) (fun _ => ?_)
  refine lv_iconst (v := 1) hx hb (show decode jLat.2.1 13 = .ok (.iconst 1, 1) by decide +kernel) (by decide) ?_
  refine lv_goto (tgt := 18) hx hb (show decode jLat.2.1 14 = .ok (.goto 4, 3) by decide +kernel) (by decide) ?_
  exact W.zret (ty := .boolean) hx hb hr rfl (fun t ht hW => ⟨rfl, ht⟩) jNil (show decode jLat.2.1 18 = .ok (.ireturn, 1) by decide +kernel)
set_option maxRecDepth 100000 in
set_option maxHeartbeats 4000000 in
theorem jix2 (x : Int32) : jMet l cs cv A jIx2 4 [.ref cs, .int x, .int 0] (mIxOf x) := by
  refine jOf (by decide) (Nat.le_of_ble_eq_true rfl) fun p e s m below meth c ls hc hl => ?_
  obtain ⟨hx, hb, hml, hown, hts, hr, hlocks, h1, h2⟩ := id hc
  have hl : lv_has ls 3 [(0, .ref cs), (1, .int x), (2, .int 0)] := hl
  refine lv_aload_n (i := 0) hx hb (show decode jIx2.2.1 0 = .ok (.aload_n 0, 1) by decide +kernel) rfl (lv_at hl 0 rfl) ?_
  refine jCallV (n := 0) (as := []) (rest := []) hc jlat rfl (jW 2 rfl) (jW 8 rfl) (jW 14 rfl) (jW 15 rfl) (jW 16 rfl) ⟨by decide, by decide, by show _ = some 0; decide +kernel⟩ (by omega) (by decide) hl.1 (Nat.le_of_ble_eq_true rfl) (show decode jIx2.2.1 1 = .ok (.invokevirtual 492, 3) by decide +kernel) jNil fun locs hlo => ?_
  refine lv_if_eq (tgt := 23) hx hb (show decode jIx2.2.1 4 = .ok (.ifCond .eq 19, 3) by decide +kernel) (by decide) (fun h => absurd h (by decide)) (fun _ => ?_)
  refine lv_aload_n (i := 0) hx hb (show decode jIx2.2.1 7 = .ok (.aload_n 0, 1) by decide +kernel) rfl (lv_at hl 0 rfl) ?_
  refine vk_getf hx hb (h1.1 0 (by omega)).2.2.1 (jS hlo) hown (hts _ (jW 33 rfl)) (fun _ h => h) (show decode jIx2.2.1 8 = .ok (.getfield 9, 3) by decide +kernel) ?_
  refine lv_iload_n (i := 1) hx hb (show decode jIx2.2.1 11 = .ok (.iload_n 1, 1) by decide +kernel) rfl (lv_at hl 1 rfl) ?_
  refine lv_iload_n (i := 2) hx hb (show decode jIx2.2.1 12 = .ok (.iload_n 2, 1) by decide +kernel) rfl (lv_at hl 2 rfl) ?_
  refine lv_aload_n (i := 0) hx hb (show decode jIx2.2.1 13 = .ok (.aload_n 0, 1) by decide +kernel) rfl (lv_at hl 0 rfl) ?_
  refine jCallV (n := 0) (as := []) (rest := [.int 0, .int x, .ref cv]) hc jlen rfl (jW 3 rfl) (jW 8 rfl) (jW 17 rfl) (jW 18 rfl) (jW 19 rfl) ⟨by decide, by decide, by show _ = some 0; decide +kernel⟩ (by omega) (by decide) hl.1 (Nat.le_of_ble_eq_true rfl) (show decode jIx2.2.1 14 = .ok (.invokevirtual 505, 3) by decide +kernel) hlo fun locs hlo => ?_
  refine jCallS (n := 0) (as := [.ref cv, .int x, .int 0, .int 14]) (rest := []) hc (jlix x) (jW 5 rfl) (jW 9 rfl) (jW 23 rfl) (jW 24 rfl) ⟨by decide, by decide, by show _ = some 4; decide +kernel⟩ (by omega) (by decide) hl.1 (Nat.le_of_ble_eq_true rfl) (show decode jIx2.2.1 17 = .ok (.invokestatic 637, 3) by decide +kernel) hlo fun locs hlo => ?_
  refine lv_goto (tgt := 36) hx hb (show decode jIx2.2.1 20 = .ok (.goto 16, 3) by decide +kernel) (by decide) ?_
  exact W.iret hx hb hr (fun t ht hW => ⟨rfl, ht⟩) hlo (show decode jIx2.2.1 36 = .ok (.ireturn, 1) by decide +kernel)
set_option maxRecDepth 100000 in
theorem jix1 (x : Int32) : jMet l cs cv A jIx1 5 [.ref cs, .int x] (mIxOf x) := by
  refine jOf (by decide) (Nat.le_of_ble_eq_true rfl) fun p e s m below meth c ls hc hl => ?_
  obtain ⟨hx, hb, hml, hown, hts, hr, hlocks, h1, h2⟩ := id hc
  have hl : lv_has ls 2 [(0, .ref cs), (1, .int x)] := hl
  refine lv_aload_n (i := 0) hx hb (show decode jIx1.2.1 0 = .ok (.aload_n 0, 1) by decide +kernel) rfl (lv_at hl 0 rfl) ?_
  refine lv_iload_n (i := 1) hx hb (show decode jIx1.2.1 1 = .ok (.iload_n 1, 1) by decide +kernel) rfl (lv_at hl 1 rfl) ?_
  refine lv_iconst (v := 0) hx hb (show decode jIx1.2.1 2 = .ok (.iconst 0, 1) by decide +kernel) (by decide) ?_
  refine jCallV (n := 0) (as := [.int x, .int 0]) (rest := []) hc (jix2 x) rfl (jW 1 rfl) (jW 8 rfl) (jW 11 rfl) (jW 12 rfl) (jW 13 rfl) ⟨by decide, by decide, by show _ = some 2; decide +kernel⟩ (by omega) (by decide) hl.1 (Nat.le_of_ble_eq_true rfl) (show decode jIx1.2.1 3 = .ok (.invokevirtual 633, 3) by decide +kernel) jNil fun locs hlo => ?_
  exact W.iret hx hb hr (fun t ht hW => ⟨rfl, ht⟩) hlo (show decode jIx1.2.1 6 = .ok (.ireturn, 1) by decide +kernel)
end JIX2
/-- the contract that the runs of the small machine ask for -/
theorem mIx_all (l : Launch) (g : MG) (D : va_G) (aC : Nat → ClassId) (scr : List Int32) : MIx l g D aC scr := by
  refine ⟨prog_18_method_79_code, 2, by omega, jW 0 rfl, fun x M => ?_⟩
  intro p e ha hc hk s m args below hf happ hP hT
  obtain ⟨h1, h2, h3, h4, h5⟩ := hP
  obtain ⟨-, cv, hS, hZ⟩ := id h2.2.2.2.2
  obtain ⟨t, o, a1, a2, a3, a4⟩ := jix1 (l := l) (cs := g.2.2) (cv := cv) (A := mA0 g) x p e ha hc hk s m args below hf happ ⟨h1, hS, hZ⟩ hT
  obtain ⟨⟨b1, b2⟩, b3⟩ := a4
  exact ⟨t, o, a1, a2, a3, ⟨b1, by rw [b2]; exact h3, by rw [b2]; exact h4, h5, ⟨by rw [b2]; exact Nat.le_refl _, fun q _ _ => by rw [b2]⟩⟩, b3⟩

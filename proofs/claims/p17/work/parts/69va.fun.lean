/-! how a law's text is read, as a small machine with a stack of its own; class and reference are held against it -/
section
variable {t : Int → Int} {c c' c'' : CF}
theorem Rch.rf : Rch t c c := ⟨0, rfl⟩
theorem smN_add : ∀ (j k : Nat) (c : CF), smN t (j + k) c = smN t k (smN t j c)
  | 0, k, c => by rw [Nat.zero_add]; rfl
  | j + 1, k, c => by
    rw [show j + 1 + k = (j + k) + 1 by omega]
    exact smN_add j k (sm t c)
theorem Rch.tr (h1 : Rch t c c') (h2 : Rch t c' c'') : Rch t c c'' := by
  obtain ⟨j, h1⟩ := h1
  obtain ⟨k, h2⟩ := h2
  exact ⟨j + k, by rw [smN_add, h1, h2]⟩
theorem Rch.go (h : sm t c = c') (k : Rch t c' c'') : Rch t c c'' := Rch.tr ⟨1, h⟩ k
theorem smN_end : ∀ (k : Nat) {c : CF}, 7 ≤ c.1 → smN t k c = c
  | 0, _, _ => rfl
  | k + 1, c, h => by
    obtain ⟨m, q⟩ := c
    have h : 7 ≤ m := h
    obtain ⟨n, rfl⟩ : ∃ n, m = n + 5 := ⟨m - 5, by omega⟩
    exact smN_end k h
/-- an end is one alone -/
theorem Rch.one (h1 : Rch t c c') (h2 : Rch t c c'') (e1 : 7 ≤ c'.1) (e2 : 7 ≤ c''.1) : c' = c'' := by
  obtain ⟨j, h1⟩ := h1
  obtain ⟨k, h2⟩ := h2
  have a : smN t (j + k) c = c' := by rw [smN_add, h1]; exact smN_end k e1
  have b : smN t (k + j) c = c'' := by rw [smN_add, h2]; exact smN_end j e2
  rw [Nat.add_comm] at a
  exact a.symm.trans b
end

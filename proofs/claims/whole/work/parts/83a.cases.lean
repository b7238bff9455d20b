theorem lg_self (x : Int64) : lg_cmp x x = 0 := by
  unfold lg_cmp
  simp
theorem l_end {L i : Nat} (hL : L ≤ 2560) (hi : i ≤ 4000) (h : ¬ nI L - 5 < nI i) : i + 5 ≤ L := by
  by_cases c : L < 5
  · exact absurd (by
      have key : ∀ L, L < 5 → nI L - 5 < 0 := by decide +kernel
      exact Int32.lt_of_lt_of_le (key L c) (nI_pos' (by omega))) h
  · obtain ⟨k, rfl⟩ : ∃ k, L = k + 5 := ⟨L - 5, by omega⟩
    have e : nI (k + 5) - 5 = nI k := by
      rw [← nI_add k 5]
      exact Int32.add_sub_cancel (nI k) (nI 5)
    rw [e] at h
    have := (nI_leI (by omega) (by omega)).mp (Int32.not_lt.mp h)
    omega
theorem l_ix (i k : Nat) (h : i + k < 2 ^ 31) : (nI i + nI k).toNatClampNeg = i + k := by rw [nI_add, nI_clamp h]
theorem l_in {i k L : Nat} (h : i + k < L) (hL : L ≤ 2560) : vp_in (nI i + nI k) L := by
  rw [nI_add]
  exact vp_in_nI h (by omega)

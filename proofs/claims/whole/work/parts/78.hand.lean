/-! next and go of the reference. Own work. -/
theorem next_neg {A : St} (hI : Inv A) (h : nextF A < 0) : nextF A = -1 := by
  have hn := hI.1
  rcases next_spec hI with h1 | ⟨i, q, hi, hq, h1, -⟩
  · exact h1
  · rw [h1] at h; exact absurd h (nI_pos (by omega))
theorem go_mv {A : St} {i q : Nat} (hI : Inv A) (hi : i < sA_n A) (hq : q < 6) (hnx : nextF A = nI (8 * i + q)) (hm : mayN A i q = 0) : goA A = moveF A (nI i) (nI q) := by
  have hn := hI.1
  rw [goA_at (by omega) hq hnx, moveF_at (by omega) hq (by rw [mayF_nI hI hi hq]; exact hm)]

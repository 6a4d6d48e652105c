/-! Small numbers for the stores. Own work. -/
theorem robotFor_c (x y : Int32) : f_T_robotFor x y = some 4 ∨ f_T_robotFor x y = some 3 := by
  unfold f_T_robotFor
  split
  · exact Or.inl rfl
  · split
    · exact Or.inl rfl
    · exact Or.inr rfl
theorem turn_nI : ∀ d, d < 16 → ∀ q, q < 4 → nI d ^^^ ((1 : Int32) <<< (nI q &&& 31)) = nI (d ^^^ 2 ^ q) := by decide +kernel
theorem lt_of_nle {k n : Nat} (h : ¬ nI k ≤ nI n) (hn : n < 2 ^ 31) : n < k := Nat.lt_of_not_le fun z => h (nI_le z hn)
theorem pos_of_nle {n : Nat} (h : ¬ nI n ≤ 0) : 1 ≤ n := by
  rcases Nat.eq_zero_or_pos n with rfl | h1
  · exact absurd (by decide) h
  · exact h1
theorem nI_s1 {n : Nat} (h : 1 ≤ n) : nI n - 1 = nI (n - 1) := pk_sub (a := n) (b := 1) h
theorem mmin_nI {a b : Nat} (ha : a < 2 ^ 31) (hb : b < 2 ^ 31) : (if nI b < nI a then nI b else nI a) = nI (min a b) := by
  by_cases h : b < a
  · rw [if_pos (nI_lt h ha), Nat.min_eq_right (by omega)]
  · rw [if_neg (nI_nlt (by omega) hb), Nat.min_eq_left (by omega)]

/-! Bounds out of isWithin. Own work. -/
theorem vp_clamp {x : Int32} {n : Nat} (h : vp_in x n) : x.toNatClampNeg < n := Nat.not_le.mp fun q => h (Or.inr q)
theorem i32_le {x y : Int32} : ¬ x < y ↔ y ≤ x := by
  rw [Int32.lt_iff_toInt_lt, Int32.le_iff_toInt_le]
  omega
theorem within_iff {x lo hi : Int32} : f_T_isWithin x lo hi = true ↔ lo ≤ x ∧ x ≤ hi := by
  unfold f_T_isWithin
  constructor
  · intro h
    split at h
    · cases h
    · next h1 =>
      split at h
      · cases h
      · next h2 => exact ⟨i32_le.mp h1, i32_le.mp h2⟩
  · rintro ⟨h1, h2⟩
    rw [if_neg (i32_le.mpr h1), if_neg (i32_le.mpr h2)]
theorem within_in {x hi : Int32} {n : Nat} (h : f_T_isWithin x 0 hi = true) (hn : hi.toInt < n) : vp_in x n := by
  rw [vp_in_iff]
  obtain ⟨h1, h2⟩ := within_iff.mp h
  rw [Int32.le_iff_toInt_le] at h1 h2
  have : (0 : Int32).toInt = 0 := rfl
  omega
theorem nI_m1 {n : Nat} (hn : n ≤ 100) : (nI n - 1).toInt = (n : Int) - 1 := pk_sub_toInt (a := n) (b := 1) (by omega) (by omega)
theorem rRefs_at {G : Gc} {r : Nat} (hr : r < 2) : rRefs G r = some (gA_ad G (8 + 4 * r)) := by
  rcases (show r = 0 ∨ r = 1 by omega) with rfl | rfl <;> rfl
theorem wRefs_at {G : Gc} {A : St} {i : Nat} (hi : i < sA_n A) : wRefs G A i = some (gA_ad G (18 + 4 * i)) := by
  unfold wRefs
  rw [if_pos hi]

/-! Indices that readers hand back. Own work. -/
theorem routeOf_lt {x : Int32} {j : Nat} (h : f_Y_routeOf x = some j) : j < 2 := by
  unfold f_Y_routeOf at h
  split at h
  · next hc =>
    cases h
    exact vp_clamp (within_in hc (by decide))
  · cases h
theorem waferOf_lt {A : St} {x : Int32} {j : Nat} (hn : sA_n A ≤ 25) (h : f_T_waferOf A x = some j) : j < sA_n A := by
  unfold f_T_waferOf at h
  split at h
  · next hc =>
    cases h
    exact vp_clamp (within_in hc (by rw [nI_m1 (by omega)]; omega))
  · cases h
theorem has_in {A : St} {r : Nat} {x : Int32} (hR : rOk A) (h : f_U_has A r x = true) : vp_in x 3 := by
  have hl := hR.1 r
  unfold f_U_has at h
  split at h
  · cases h
  · next h1 =>
    split at h
    · cases h
    · next h2 =>
      rw [vp_in_iff]
      rw [Int32.lt_iff_toInt_lt] at h1
      rw [Int32.le_iff_toInt_le, nI_toInt (by omega)] at h2
      have : (0 : Int32).toInt = 0 := rfl
      omega
theorem begun_in {A : St} {i : Nat} {x : Int32} (hI : Inv A) (hi : i < sA_n A) (h : f_W_hasBegun A i x = true) : vp_in x 3 := by
  have h1 := (hI.2.2.1 i hi).2.1
  have h2 := hI.2.1.1 (sA_rt A i)
  exact within_in (n := 3) h (by rw [nI_m1 (by omega)]; omega)
theorem ne5 {q : Nat} (hq : q < 6) (h : ¬ nI q = 5) : q < 5 := by
  have : q ≠ 5 := fun e => h (by rw [e]; rfl)
  omega

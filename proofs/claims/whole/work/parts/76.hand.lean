/-! The reference's writers. Own work. -/
theorem cidx_yes {y : Int32} (h : ¬ y < 0) (h2 : ¬ 3 < y) : ∃ q : Nat, q < 4 ∧ y = nI q := by
  obtain ⟨j, hj, rfl⟩ := nI_of h
  exact ⟨j, by have := (nI_leI (a := j) (b := 3) hj (by omega)).mp (i32_le.mp h2); omega, rfl⟩
theorem cidx_n1 {y : Int32} (h : y < 0) : cidx y = none := by unfold cidx; rw [if_neg (fun z => i32_le.mpr z.1 h)]
theorem cidx_n2 {y : Int32} (h : 3 < y) : cidx y = none := by unfold cidx; rw [if_neg (fun z => i32_le.mpr z.2 h)]
theorem down_n {A : St} {x y : Int32} (h : cidx x = none) : b2i false = b2i (downF A x y) ∧ downA A x y = A := by
  have e : downF A x y = false := by unfold downF; rw [oc_none h]
  unfold downA
  rw [e]
  exact ⟨rfl, rfl⟩
theorem down_s {A : St} {q : Nat} {y : Int32} (hq : q < 4) (h : b2i ((sA_dn A).testBit q) = y) : b2i false = b2i (downF A (nI q) y) ∧ downA A (nI q) y = A := by
  have e : downF A (nI q) y = false := by unfold downF; rw [oc_some (cidx_nI hq)]; simp [h]
  unfold downA
  rw [e]
  exact ⟨rfl, rfl⟩
theorem down_y {A : St} {q : Nat} {y : Int32} (hq : q < 4) (h : ¬ b2i ((sA_dn A).testBit q) = y) : b2i true = b2i (downF A (nI q) y) ∧ downA A (nI q) y = sU_dn A (sA_dn A ^^^ 2 ^ q) := by
  have e : downF A (nI q) y = true := by unfold downF; rw [oc_some (cidx_nI hq)]; simp [h]
  unfold downA
  rw [e, if_pos rfl, nI_clamp (by omega)]
  exact ⟨rfl, rfl⟩
theorem dn_val {b : Bool} {y : Int32} (hy : y = 0 ∨ y = 1) (h : ¬ b2i b = y) : vp_nar .boolean y = b2i (!b) := by
  rcases hy with rfl | rfl <;> cases b <;> first | rfl | exact absurd rfl h
theorem rw_s_dn {X : Xt} {G : Gr} {A : St} {k : Nat} : (rw_ X G A).set 14 (rA_ad G 14, .inl (x_Z X, aI 4 (upd (fun x => b2i ((sA_dn A).testBit x)) k (b2i (!(sA_dn A).testBit k))))) = rw_ X G (sU_dn A (sA_dn A ^^^ 2 ^ k)) := by
  have e : upd (fun x => b2i ((sA_dn A).testBit x)) k (b2i (!(sA_dn A).testBit k)) = fun x => b2i ((sA_dn A ^^^ 2 ^ k).testBit x) := by
    funext x
    by_cases h : x = k
    · subst h
      rw [pk_us, Nat.testBit_xor, Nat.testBit_two_pow_self]
      cases (sA_dn A).testBit x <;> rfl
    · rw [pk_un h, Nat.testBit_xor, Nat.testBit_two_pow_of_ne (fun z => h z.symm), Bool.xor_false]
  rw [e]
  rfl
theorem isRoute_x {x : Int32} (h : f_M_isRoute x = true) : ∃ r : Nat, r < 2 ∧ x = nI r ∧ f_Y_routeOf x = some r := by
  unfold f_M_isRoute at h
  by_cases h0 : x = 0
  · subst h0; exact ⟨0, by omega, rfl, rfl⟩
  · by_cases h1 : x = 1
    · subst h1; exact ⟨1, by omega, rfl, rfl⟩
    · simp [h0, h1] at h
theorem isRoute_no {x : Int32} (h : f_M_isRoute x = false) : f_Y_routeOf x = none := by
  rw [routeOf_eq]
  unfold ridx
  unfold f_M_isRoute at h
  by_cases h0 : x = 0
  · subst h0; simp at h
  · by_cases h1 : x = 1
    · subst h1; simp at h
    · rw [if_neg h0, if_neg h1]
theorem n_le0 {n : Nat} (h : nI n ≤ 0) (hn : n < 2 ^ 31) : n = 0 := lf_0 h hn
theorem rng {y lo hi : Int32} {n m : Nat} (h1 : ¬ y < lo) (h2 : ¬ hi < y) (hm : lo.toInt = m) (hn : hi.toInt = n) : ∃ q : Nat, m ≤ q ∧ q ≤ n ∧ y = nI q := within_n (within_iff.mpr ⟨i32_le.mp h1, i32_le.mp h2⟩) hm hn
theorem nz_of {n : Nat} (h : ¬ nI n ≤ 0) : ¬ n = 0 := fun z => by rw [z] at h; exact h (by decide)
theorem n25 {n : Nat} (hn : n ≤ 25) (h : nI n = 25) : n = 25 := (nI_eq (b := 25) (by omega) (by omega)).mp h

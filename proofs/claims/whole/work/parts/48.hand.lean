/-! safe and down. Own work. -/
theorem SA_0 {A : St} (hI : Inv A) (h : sA_n A = 0) : isZ (SA A) = true := by
  rw [isZ_iff]
  intro p hp
  unfold SA toS mkD
  rw [if_pos hp]
  have h9 : sit9 A p = 0 := by unfold sit9; rw [h]; rfl
  rw [h9]
  simp
theorem within_3 {y : Int32} (h : f_T_isWithin y 0 3 = true) : ∃ q : Nat, q < 4 ∧ y = nI q := by
  obtain ⟨h1, h2⟩ := within_iff.mp h
  obtain ⟨j, hj, rfl⟩ := i32_nat h1
  exact ⟨j, by have := (nI_leI (b := 3) hj (by omega)).mp h2; omega, rfl⟩
/-- which chamber a number names -/
def cidx (x : Int32) : Option Nat := if 0 ≤ x ∧ x ≤ 3 then some x.toNatClampNeg else none
def downF (A : St) (x y : Int32) : Bool := oc (cidx x) false (fun q => decide (¬ b2i ((sA_dn A).testBit q) = y))
def downA (A : St) (x y : Int32) : St := if downF A x y = true then sU_dn A (sA_dn A ^^^ 2 ^ x.toNatClampNeg) else A
theorem cidx_nI {q : Nat} (hq : q < 4) : cidx (nI q) = some q := by
  unfold cidx
  rw [if_pos ⟨nI_pos' (by omega), nI_le (a := q) (b := 3) (by omega) (by omega)⟩, nI_clamp (by omega)]
theorem cidx_bad {x : Int32} (h : f_T_isWithin x 0 3 = false) : cidx x = none := by
  unfold cidx
  rw [if_neg]
  intro hc
  rw [within_iff.mpr hc] at h
  cases h
theorem downF_bad {A : St} {x y : Int32} (h : f_T_isWithin x 0 3 = false) : b2i false = b2i (downF A x y) := by
  unfold downF
  rw [oc_none (cidx_bad h)]
theorem downA_bad {A : St} {x y : Int32} (h : f_T_isWithin x 0 3 = false) : downA A x y = A := by
  unfold downA downF
  rw [oc_none (cidx_bad h)]
  rfl
theorem downF_at {A : St} {q : Nat} {y : Int32} (hd : sA_dn A < 16) (hq : q < 4) : downF A (nI q) y = decide (¬ b2i (f_Y_isDown A (nI q)) = y) := by
  unfold downF
  rw [oc_some (cidx_nI hq), down_nI hd (by omega)]
theorem downF_same {A : St} {q : Nat} {y : Int32} (hd : sA_dn A < 16) (hq : q < 4) (h : b2i (f_Y_isDown A (nI q)) = y) : b2i false = b2i (downF A (nI q) y) := by
  rw [downF_at hd hq]
  simp [h]
theorem downA_same {A : St} {q : Nat} {y : Int32} (hd : sA_dn A < 16) (hq : q < 4) (h : b2i (f_Y_isDown A (nI q)) = y) : downA A (nI q) y = A := by
  unfold downA
  rw [downF_at hd hq]
  simp [h]
theorem downF_ok {A : St} {q : Nat} {y : Int32} (hd : sA_dn A < 16) (hq : q < 4) (h : ¬ b2i (f_Y_isDown A (nI q)) = y) : b2i true = b2i (downF A (nI q) y) := by
  rw [downF_at hd hq]
  simp [h]
theorem downA_ok {A : St} {q : Nat} {y : Int32} (hd : sA_dn A < 16) (hq : q < 4) (h : ¬ b2i (f_Y_isDown A (nI q)) = y) : downA A (nI q) y = sU_dn A (sA_dn A ^^^ 2 ^ q) := by
  unfold downA
  rw [downF_at hd hq, if_pos (by simp [h]), nI_clamp (by omega)]
theorem RC_down {G : Gc} {A : St} {d : Nat} {f1 f2 : Nat → Int64} (hC : RC G A) (h1 : ∀ j, j < 1024 → f1 j = 0) (h2 : ∀ j, j < 1024 → f2 j = 0) : RC (gU_ps (gU_kn G f1) f2) (sU_dn A d) := by
  refine ⟨fun q hq => ?_, hC.2.1, hC.2.2.1, MI_zero h1 h2, fun _ k hk => ⟨h1 k hk, h2 k hk⟩⟩
  rw [show gA_ins (gU_ps (gU_kn G f1) f2) q = gA_ins G q from rfl, hC.1 q hq]
  unfold inP
  by_cases h5 : q < 5
  · rw [if_pos h5, if_pos h5]
    exact (occ_congr (A := A) (B := sU_dn A d) (k := sA_n A) (fun j hj => Iff.rfl)).symm
  · rw [if_neg h5, if_neg h5]

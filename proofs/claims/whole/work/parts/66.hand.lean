/-! What the reference's readers say. Own work. -/
theorem isWafer_x {A : St} {x : Int32} (hn : sA_n A ≤ 25) (h : f_M_isWafer A x = true) : ∃ i : Nat, i < sA_n A ∧ x = nI i := by
  unfold f_M_isWafer at h
  split at h
  · cases h
  · next h1 =>
    split at h
    · cases h
    · next h2 =>
      obtain ⟨j, hj, rfl⟩ := nI_of h1
      exact ⟨j, Nat.lt_of_not_le fun z => h2 (nI_le z hj), rfl⟩
theorem isWafer_no {A : St} {x : Int32} (hn : sA_n A ≤ 25) (h : f_M_isWafer A x = false) : widx A x = none := by
  cases hw : widx A x with
  | none => rfl
  | some i =>
    obtain ⟨hi, rfl⟩ := widx_some hw hn
    unfold f_M_isWafer at h
    rw [if_neg (nI_pos (by omega)), if_neg (nI_ge hi (by omega))] at h
    cases h
theorem isFin_eq {A : St} {i : Nat} (hI : Inv A) (hi : i < sA_n A) : f_M_isFinished A i = fin A i := by
  obtain ⟨w1, w2, w3, -⟩ := hI.2.2.1 i hi
  have wl := hI.2.1.1 (sA_rt A i)
  unfold f_M_isFinished fin
  by_cases h5 : sA_pl A i = 5
  · rw [if_pos (show nI (sA_pl A i) = (5 : Int32) by rw [h5]; rfl), h5]
    by_cases hs : sA_sg A i = sA_len A (sA_rt A i)
    · rw [if_pos (by rw [hs])]
      simp [hs]
    · rw [if_neg (nI_ne hs (by omega) (by omega))]
      simp [hs]
  · rw [if_neg (show ¬ nI (sA_pl A i) = (5 : Int32) from nI_ne (b := 5) h5 (by omega) (by omega))]
    simp [h5]
def placeF (A : St) (x : Int32) : Int32 := oc (widx A x) (-1) (fun i => nI (sA_pl A i))
def stageF (A : St) (x : Int32) : Int32 := oc (widx A x) (-1) (fun i => nI (sA_sg A i))
def leftF (A : St) (x : Int32) : Int32 := oc (widx A x) (-1) (fun i => nI (sA_lf A i))
def stayF (A : St) (x : Int32) : Int32 := oc (widx A x) (-1) (fun i => stayN A i)
def begN (A : St) (i : Nat) (y : Int32) : Bool := decide (0 ≤ y ∧ y < nI (sA_sg A i))
def visitedF (A : St) (x y : Int32) : Int32 := oc (widx A x) (-1) (fun i => if begN A i y = true then sA_ch A i y.toNatClampNeg else -1)
def whenF (A : St) (x y z : Int32) : Int32 := oc (widx A x) (-1) (fun i => if begN A i y = true then (if z = 0 then sA_be A i y.toNatClampNeg else sA_en A i y.toNatClampNeg) else -1)
def inF (A : St) (x : Int32) : Int32 := if 0 ≤ x ∧ x < 5 then inP A x.toNatClampNeg else -1
def f_M_isVisit (A : St) (x y : Int32) : Bool := oc (widx A x) false (fun i => begN A i y)
theorem begN_x {A : St} {i : Nat} {y : Int32} (hs : sA_sg A i ≤ 3) (h : begN A i y = true) : ∃ j : Nat, j < sA_sg A i ∧ y = nI j := by
  unfold begN at h
  simp at h
  obtain ⟨j, hj, rfl⟩ := i32_nat h.1
  exact ⟨j, (nI_ltI hj (by omega)).mp h.2, rfl⟩
theorem isVisit_x {A : St} {x y : Int32} (hI : Inv A) (h : f_M_isVisit A x y = true) : ∃ i j : Nat, i < sA_n A ∧ j < sA_sg A i ∧ x = nI i ∧ y = nI j ∧ widx A x = some i ∧ begN A i y = true := by
  unfold f_M_isVisit at h
  cases hw : widx A x with
  | none => rw [oc_none hw] at h; cases h
  | some i =>
    rw [oc_some hw] at h
    obtain ⟨hi, e⟩ := widx_some hw hI.1
    have wl := hI.2.1.1 (sA_rt A i)
    have w2 := (hI.2.2.1 i hi).2.1
    obtain ⟨j, hj, e2⟩ := begN_x (by omega) h
    exact ⟨i, j, hi, hj, e, e2, rfl, h⟩
theorem visited_no {A : St} {x y : Int32} (h : f_M_isVisit A x y = false) : -1 = visitedF A x y := by
  unfold f_M_isVisit at h
  unfold visitedF
  cases hw : widx A x with
  | none => rw [oc_none rfl]
  | some i =>
    rw [oc_some hw] at h
    rw [oc_some rfl, if_neg (by rw [h]; decide)]
theorem when_no {A : St} {x y z : Int32} (h : f_M_isVisit A x y = false) : -1 = whenF A x y z := by
  unfold f_M_isVisit at h
  unfold whenF
  cases hw : widx A x with
  | none => rw [oc_none rfl]
  | some i =>
    rw [oc_some hw] at h
    rw [oc_some rfl, if_neg (by rw [h]; decide)]
theorem visited_yes {A : St} {i j : Nat} (hw : widx A (nI i) = some i) (hb : begN A i (nI j) = true) (hj : j < 100) : sA_ch A i j = visitedF A (nI i) (nI j) := by
  unfold visitedF
  rw [oc_some hw, if_pos hb, nI_clamp (by omega)]
theorem when_yes {A : St} {i j : Nat} {z : Int32} (hw : widx A (nI i) = some i) (hb : begN A i (nI j) = true) (hj : j < 100) : (if z = 0 then sA_be A i j else sA_en A i j) = whenF A (nI i) (nI j) z := by
  unfold whenF
  rw [oc_some hw, if_pos hb, nI_clamp (by omega)]
theorem rk_nI {A : St} {i : Nat} (hI : Inv A) (hB : snB A) (hi : i < sA_n A) : (if nI (sA_pl A i) = 5 then 2000 else if 0 ≤ stayF A (nI i) then stayF A (nI i) else 1000) = nI (rkA A i) := by
  have hp := (hI.2.2.1 i hi).2.2.1
  have hf := (hI.2.2.1 i hi).2.2.2.1
  unfold stayF rkA stayN
  rw [oc_some (widx_nI hi hI.1)]
  by_cases h5 : sA_pl A i = 5
  · rw [if_pos (show nI (sA_pl A i) = (5 : Int32) by rw [h5]; rfl), if_pos h5]
    rfl
  · rw [if_neg (show ¬ nI (sA_pl A i) = (5 : Int32) from nI_ne (b := 5) h5 (by omega) (by omega)), if_neg h5]
    by_cases hc : sA_pl A i < 4 ∧ lmt A i ≠ 0
    · have := lmt_le hI hi hc.1
      rw [if_pos hc, if_pos hc, if_pos (nI_pos' (by omega))]
    · rw [if_neg hc, if_neg hc, if_neg (by decide)]
      rfl
theorem way_nI1 : ∀ d, d < 16 → ∀ u, u < 6 → ∀ v, v < 6 → (!(d.testBit u) && !(d.testBit v) && f_M_areNear (nI u) (nI v) && (if nI u < 2 ∧ nI v = 5 ∨ nI u = 4 ∧ nI v = 5 ∨ (1 : Int32) < nI u ∧ nI u < 4 ∧ nI v = 4 then true else false)) = leadN d 0 u v := by decide +kernel
theorem i32_nle {x y : Int32} (h : ¬ y ≤ x) : x < y := by
  rw [Int32.le_iff_toInt_le] at h
  rw [Int32.lt_iff_toInt_lt]
  omega
def f_M_rank (A : St) (i : Nat) : Int32 := nI (rkA A i)
theorem if_max_a {z : Int32} (h : 0 ≤ z) : z = (if 0 < z then z else 0) := by
  by_cases h1 : 0 < z
  · rw [if_pos h1]
  · rw [if_neg h1]
    rw [Int32.le_iff_toInt_le] at h
    rw [Int32.lt_iff_toInt_lt] at h1
    apply Int32.toInt_inj.mp
    have : (0 : Int32).toInt = 0 := rfl
    omega
theorem if_max_b {z : Int32} (h : ¬ 0 ≤ z) : 0 = (if 0 < z then z else 0) := by
  rw [if_neg]
  intro h1
  apply h
  rw [Int32.le_iff_toInt_le]
  rw [Int32.lt_iff_toInt_lt] at h1
  omega

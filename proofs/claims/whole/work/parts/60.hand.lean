/-! A wafer that is loaded: answer, relation, invariant. Own work. -/
theorem routeOf_x {x : Int32} {r : Nat} (h : f_Y_routeOf x = some r) : x = nI r := by
  rw [routeOf_eq] at h
  unfold ridx at h
  split at h
  · next e => cases h; exact e
  · split at h
    · next e => cases h; exact e
    · cases h
def loadF (A : St) (x : Int32) : Int32 := oc (ridx x) (-1) (fun _ => if 25 ≤ sA_n A then -1 else nI (sA_n A))
def loadS (A : St) (x : Int32) : St := oc (ridx x) A (fun r => if 25 ≤ sA_n A then A else ldA A r)
theorem load_none {A : St} {x : Int32} (h : f_Y_routeOf x = none) : -1 = loadF A x ∧ loadS A x = A := by
  rw [routeOf_eq] at h
  unfold loadF loadS
  rw [oc_none h, oc_none h]
  exact ⟨rfl, rfl⟩
theorem load_full {A : St} {x : Int32} {r : Nat} (h : f_Y_routeOf x = some r) (h2 : 25 ≤ sA_n A) : -1 = loadF A x ∧ loadS A x = A := by
  rw [routeOf_eq] at h
  unfold loadF loadS
  rw [oc_some h, oc_some h, if_pos h2, if_pos h2]
  exact ⟨rfl, rfl⟩
theorem load_ok {A : St} {x : Int32} {r : Nat} (h : f_Y_routeOf x = some r) (h2 : sA_n A < 25) : nI (sA_n A) = loadF A x ∧ loadS A x = ldA A r := by
  rw [routeOf_eq] at h
  unfold loadF loadS
  rw [oc_some h, oc_some h, if_neg (by omega), if_neg (by omega)]
  exact ⟨rfl, rfl⟩
theorem ldA_f {A : St} {r : Nat} : sA_n (ldA A r) = sA_n A + 1 ∧ sA_pl (ldA A r) = va_up (sA_pl A) (sA_n A) 5 ∧ sA_rt (ldA A r) = va_up (sA_rt A) (sA_n A) r := ⟨rfl, rfl, rfl⟩
theorem Inv_load {A : St} {r : Nat} (hI : Inv A) (hr : r < 2) (hn : sA_n A < 25) : Inv (ldA A r) := by
  obtain ⟨h1, hR, hW, hu, hf⟩ := hI
  obtain ⟨g1, g2, g3⟩ := ldA_f (A := A) (r := r)
  refine ⟨by rw [g1]; omega, hR, fun i hi => ?_, fun i j hi hj he h5 => ?_, fun i hi => ?_⟩
  · rw [g1] at hi
    unfold wOk
    rw [g2, g3]
    by_cases e : i = sA_n A
    · subst e
      obtain ⟨-, -, f3, f4, f5, f6, -⟩ := hf (sA_n A) (Nat.le_refl _)
      rw [va_up_self, va_up_self]
      have s3 : sA_sg (ldA A r) (sA_n A) = 0 := f3
      have s4 : sA_lf (ldA A r) (sA_n A) = 0 := f4
      rw [s3, s4]
      exact ⟨hr, by omega, by omega, by omega, fun z => by omega, fun z => by omega, fun z => by omega⟩
    · rw [va_up_ne _ _ e, va_up_ne _ _ e]
      exact hW i (by omega)
  · rw [g1] at hi hj
    rw [g2] at he h5
    by_cases e1 : i = sA_n A
    · subst e1
      rw [va_up_self] at h5
      omega
    · by_cases e2 : j = sA_n A
      · subst e2
        rw [va_up_self, va_up_ne _ _ e1] at he
        rw [va_up_ne _ _ e1] at h5
        omega
      · rw [va_up_ne _ _ e1, va_up_ne _ _ e2] at he
        rw [va_up_ne _ _ e1] at h5
        exact hu i j (by omega) (by omega) he h5
  · rw [g1] at hi
    obtain ⟨f1, f2, f3, f4, f5, f6, f7, f8, f9⟩ := hf i (by omega)
    have e : i ≠ sA_n A := by omega
    refine ⟨?_, ?_, f3, f4, f5, f6, f7, f8, f9⟩
    · rw [g3, va_up_ne _ _ e]; exact f1
    · rw [g2, va_up_ne _ _ e]; exact f2
theorem RC_load {G : Gc} {A : St} {r : Nat} {u : Nat × Nat × Nat × Nat} {b : Bool} (hI : Inv A) (hC : RC G A) (hb : b = decide (sA_len A r = 0)) : RC (ldG G (sA_n A) u b) (ldA A r) := by
  obtain ⟨g1, g2, g3⟩ := ldA_f (A := A) (r := r)
  refine ⟨fun q hq => ?_, fun i hi => ?_, fun i hi h4 => ?_, hC.2.2.2.1, fun z => ?_⟩
  · rw [show gA_ins (ldG G (sA_n A) u b) q = gA_ins G q from rfl, hC.1 q hq]
    unfold inP
    rw [if_pos hq, if_pos hq, g1, show occ (ldA A r) q (sA_n A + 1) = if sA_pl (ldA A r) (sA_n A) = q then nI (sA_n A) else occ (ldA A r) q (sA_n A) from rfl, g2, va_up_self, if_neg (by omega)]
    refine (occ_congr (fun j hj => ?_)).symm
    rw [g2, va_up_ne _ _ (by omega)]
  · rw [g1] at hi
    show va_up (gA_fi G) (sA_n A) b i = fin (ldA A r) i
    unfold fin
    rw [g2, g3]
    by_cases e : i = sA_n A
    · subst e
      obtain ⟨-, -, f3, -⟩ := hI.2.2.2.2 (sA_n A) (Nat.le_refl _)
      have s3 : sA_sg (ldA A r) (sA_n A) = 0 := f3
      rw [va_up_self, va_up_self, va_up_self, s3, hb]
      show decide (sA_len A r = 0) = (5 == 5 && 0 == sA_len A r)
      by_cases h : sA_len A r = 0
      · simp [h]
      · have : ¬ 0 = sA_len A r := fun z => h z.symm
        simp [h, this]
    · rw [va_up_ne _ _ e, va_up_ne _ _ e, va_up_ne _ _ e]
      exact hC.2.1 i (by omega)
  · rw [g1] at hi
    rw [g2] at h4
    show va_up (gA_wt G) (sA_n A) 0 i = nI (sA_sn (ldA A r) i)
    by_cases e : i = sA_n A
    · subst e
      rw [va_up_self] at h4
      omega
    · rw [va_up_ne _ _ e] at h4 ⊢
      exact hC.2.2.1 i (by omega) h4
  · rw [g1] at z
    omega

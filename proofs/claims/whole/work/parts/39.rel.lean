/-! How the class's own cells follow the shared state; partial situations. Own work. -/
def SA (A : St) : Nat → Nat := toS (envA A) (sit9 A)
def RC (G : Gc) (A : St) : Prop := (∀ q, q < 5 → gA_ins G q = inP A q) ∧ (∀ i, i < sA_n A → gA_fi G i = fin A i) ∧ (∀ i, i < sA_n A → sA_pl A i < 4 → gA_wt G i = nI (sA_sn A i)) ∧ MI (envA A) (gA_kn G) (gA_ps G) ∧ (sA_n A = 0 → ∀ k, k < 1024 → gA_kn G k = 0 ∧ gA_ps G k = 0)
def parS (S : Nat → Nat) (q : Nat) : Nat → Nat := fun x => if x < q then S x else 0
theorem par_0 (S : Nat → Nat) : enc (parS S 0) = 0 := by
  rw [enc_eq]
  simp [parS]
theorem par_5 {S : Nat → Nat} (h : ∀ q, 5 ≤ q → S q = 0) : parS S 5 = S := by
  funext x
  unfold parS
  split
  · rfl
  · next hx => exact (h x (by omega)).symm
theorem par_s (S : Nat → Nat) (q : Nat) : parS S (q + 1) = va_up (parS S q) q (S q) := by
  funext x
  unfold parS va_up
  by_cases h : x = q
  · subst h
    rw [if_pos (by omega), if_pos rfl]
  · rw [if_neg h]
    by_cases h2 : x < q
    · rw [if_pos (by omega)]
      exact (if_pos h2).symm
    · rw [if_neg (by omega)]
      exact (if_neg h2).symm
theorem par_q (S : Nat → Nat) (q : Nat) : parS S q q = 0 := by
  unfold parS
  rw [if_neg (by omega)]
theorem par_z {S : Nat → Nat} {q : Nat} (h : S q = 0) : parS S (q + 1) = parS S q := by
  rw [par_s, h]
  funext x
  unfold va_up
  split
  · next e => rw [e, par_q]
  · rfl
theorem fit_par {S : Nat → Nat} (hS : fitS S) (q : Nat) : fitS (parS S q) := by
  obtain ⟨f1, f2, f3⟩ := hS
  refine ⟨fun x hx => ?_, ?_, fun x hx => ?_⟩
  · unfold parS; split
    · exact f1 x hx
    · omega
  · unfold parS; split
    · exact f2
    · omega
  · unfold parS; split
    · exact f3 x hx
    · rfl
theorem waferOf_nI {A : St} {i : Nat} (hn : sA_n A ≤ 25) (hi : i < sA_n A) : f_T_waferOf A (nI i) = some i := by
  unfold f_T_waferOf
  rw [if_pos (within_iff.mpr ⟨nI_pos' (by omega), ?_⟩), nI_clamp (by omega)]
  rw [Int32.le_iff_toInt_le, nI_m1 (by omega), nI_toInt (by omega)]
  omega
theorem waferOf_m1 {A : St} : f_T_waferOf A (-1) = none := by
  unfold f_T_waferOf
  rw [if_neg]
  intro h
  have := (within_iff.mp h).1
  exact absurd this (by decide)
theorem waferOf_eq {A : St} (hn : sA_n A ≤ 25) (x : Int32) : f_T_waferOf A x = widx A x := by
  unfold widx
  by_cases h : 0 ≤ x ∧ x < nI (sA_n A)
  · obtain ⟨j, hj, rfl⟩ := i32_nat h.1
    have hj2 := (nI_ltI hj (by omega)).mp h.2
    rw [if_pos h, waferOf_nI hn hj2, nI_clamp (by omega)]
  · rw [if_neg h]
    unfold f_T_waferOf
    rw [if_neg]
    intro hw
    obtain ⟨h1, h2⟩ := within_iff.mp hw
    apply h
    refine ⟨h1, ?_⟩
    rw [Int32.le_iff_toInt_le, nI_m1 (by omega)] at h2
    rw [Int32.lt_iff_toInt_lt, nI_toInt (by omega)]
    omega
theorem SA_5 {A : St} : ∀ q, 5 ≤ q → SA A q = 0 := by
  intro q hq
  unfold SA toS
  rw [if_neg (by omega)]
theorem SA_fit {A : St} (hI : Inv A) : fitS (SA A) := by
  have h9 := ok9_sit hI
  have key : ∀ q, q < 5 → SA A q ≤ mkD q (sit9 A q) := by
    intro q hq
    unfold SA toS
    rw [if_pos hq]
    split <;> omega
  refine ⟨fun q hq => ?_, ?_, SA_5⟩
  · have h1 := key q (by omega)
    have h2 := (h9 q (by omega)).1
    unfold mkD at h1
    rw [if_neg (show ¬ q = 4 by omega)] at h1
    split at h1 <;> omega
  · have h1 := key 4 (by omega)
    have h2 := (h9 4 (by omega)).1
    unfold mkD at h1
    rw [if_pos (show (4 : Nat) = 4 from rfl)] at h1
    split at h1 <;> omega
theorem SA_none {G : Gc} {A : St} {q : Nat} (hI : Inv A) (hC : RC G A) (hq : q < 5) (h : f_T_waferOf A (gA_ins G q) = none) : SA A q = 0 := by
  rw [hC.1 q hq] at h
  rcases sit9_cases hI.2.2.2.1 hq with ⟨h1, h2⟩ | ⟨i, hi, hp, h1, h2⟩
  · unfold SA toS mkD
    rw [if_pos hq, h1]
    simp
  · rw [h2, waferOf_nI hI.1 hi] at h
    cases h
theorem SA_some {G : Gc} {A : St} {q i : Nat} (hI : Inv A) (hC : RC G A) (hq : q < 5) (h : f_T_waferOf A (gA_ins G q) = some i) : i < sA_n A ∧ sA_pl A i = q ∧ sit9 A q = dgt A i ∧ gA_ins G q = nI i := by
  rw [hC.1 q hq] at h ⊢
  rcases sit9_cases hI.2.2.2.1 hq with ⟨h1, h2⟩ | ⟨j, hj, hp, h1, h2⟩
  · rw [h2, waferOf_m1] at h
    cases h
  · rw [h2, waferOf_nI hI.1 hj] at h
    cases h
    exact ⟨hj, hp, h1, h2⟩
theorem SA_dn {A : St} {q : Nat} (hI : Inv A) (hq : q < 5) (h : f_Y_isDown A (nI q) = true) : SA A q = 0 := by
  rw [down_nI hI.2.1.2.2 (by omega)] at h
  unfold SA toS
  rw [if_pos hq, if_pos]
  unfold dnP
  have h4 : q < 4 := by
    have hd := hI.2.1.2.2
    by_cases e : q < 4
    · exact e
    · have : q = 4 := by omega
      subst this
      rw [Nat.testBit_lt_two_pow (by omega)] at h
      cases h
  rw [show (e_dn (envA A)).testBit q = true from h]
  simp [h4]
theorem SA_up {A : St} {q i : Nat} (hI : Inv A) (hq : q < 5) (h : f_Y_isDown A (nI q) = false) (hs : sit9 A q = dgt A i) : SA A q = (if q = 4 then 8 else 0) + 4 * sA_rt A i + sA_sg A i := by
  rw [down_nI hI.2.1.2.2 (by omega)] at h
  unfold SA toS
  rw [if_pos hq, if_neg]
  · rw [hs]
    unfold mkD dgt
    rw [if_neg (by omega)]
    omega
  · unfold dnP
    rw [show (e_dn (envA A)).testBit q = false from h]
    simp
theorem sit_with {A : St} {q i : Nat} (hI : Inv A) (hq : q < 5) (h : f_Y_isDown A (nI q) = false) (hi : i < sA_n A) (hs : sit9 A q = dgt A i) : f_S_with (nI (enc (parS (SA A) q))) (nI q) (nI (sA_rt A i)) (nI (sA_sg A i)) = nI (enc (parS (SA A) (q + 1))) := by
  have hw := hI.2.2.1 i hi
  have hl := hI.2.1.1 (sA_rt A i)
  rw [with_nI (fit_par (SA_fit hI) q) hq (par_q _ _) hw.1 (by have := hw.2.1; omega), par_s, SA_up hI hq h hs]

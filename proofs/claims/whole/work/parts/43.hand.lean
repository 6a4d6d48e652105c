/-! may: what its parts say. Own work. -/
theorem within_q {y : Int32} (h : f_T_isWithin y 0 5 = true) : ∃ q : Nat, q < 6 ∧ y = nI q := by
  obtain ⟨h1, h2⟩ := within_iff.mp h
  obtain ⟨j, hj, rfl⟩ := i32_nat h1
  exact ⟨j, by have := (nI_leI (b := 5) hj (by omega)).mp h2; omega, rfl⟩
theorem pidx_bad {y : Int32} (h : f_T_isWithin y 0 5 = false) : pidx y = none := by
  unfold pidx
  rw [if_neg]
  intro hc
  rw [within_iff.mpr hc] at h
  cases h
theorem mayF_none {A : St} {x y : Int32} (hn : sA_n A ≤ 25) (h : f_T_waferOf A x = none) : -1 = mayF A x y := by
  unfold mayF
  rw [← waferOf_eq hn, oc_none h]
theorem mayF_bad {A : St} {x y : Int32} {i : Nat} (hn : sA_n A ≤ 25) (h : f_T_waferOf A x = some i) (h2 : f_T_isWithin y 0 5 = false) : -1 = mayF A x y := by
  unfold mayF
  rw [← waferOf_eq hn, oc_some h, oc_none (pidx_bad h2)]
theorem mayF_at {A : St} {x : Int32} {i q : Nat} (hn : sA_n A ≤ 25) (h : f_T_waferOf A x = some i) (hq : q < 6) : mayF A x (nI q) = mayN A i q := by
  unfold mayF
  rw [← waferOf_eq hn, oc_some h, oc_some (pidx_nI hq)]
theorem lf_pos {n : Nat} (h : ¬ nI n ≤ 0) : 0 < n := pos_of_nle h
theorem lf_0 {n : Nat} (h : nI n ≤ 0) (hn : n < 2 ^ 31) : n = 0 := by
  have := (nI_leI (a := n) (b := 0) hn (by omega)).mp h
  omega
theorem taken_iff {G : Gc} {A : St} {i q : Nat} (hC : RC G A) (hp : sA_pl A i ≤ 5) (hq : q < 6) : f_T_isTaken G A i q = decide (q ≠ sA_pl A i ∧ inP A q ≠ -1) := by
  unfold f_T_isTaken
  by_cases h5 : q = 5
  · subst h5
    rw [if_pos (show nI 5 = (5 : Int32) from rfl)]
    have : inP A 5 = -1 := rfl
    simp [this]
  · rw [if_neg (show ¬ nI q = (5 : Int32) from nI_ne (b := 5) h5 (by omega) (by omega))]
    by_cases hpq : q = sA_pl A i
    · rw [if_pos (by rw [← hpq])]
      simp [hpq]
    · rw [if_neg (nI_ne hpq (by omega) (by omega)), hC.1 q (by omega)]
      by_cases hin : inP A q = -1
      · rw [if_pos hin]
        simp [hin]
      · rw [if_neg hin]
        simp [hin, hpq]
theorem rob_nI : ∀ p, p < 6 → ∀ q, q < 6 → f_T_robotFor (nI p) (nI q) = if (backN p || backN q) = true then some 4 else some 3 := by decide +kernel
theorem rob_4 {p q : Nat} (hp : p < 6) (hq : q < 6) (h : f_T_robotFor (nI p) (nI q) = some 4) : (backN p || backN q) = true := by
  rw [rob_nI p hp q hq] at h
  split at h
  · assumption
  · exact absurd h (by decide)
theorem rob_3 {p q : Nat} (hp : p < 6) (hq : q < 6) (h : f_T_robotFor (nI p) (nI q) = some 3) : (backN p || backN q) = false := by
  rw [rob_nI p hp q hq] at h
  split at h
  · exact absurd h (by decide)
  · next h2 => simpa using h2
theorem sitAft_mov {A : St} {i q : Nat} (hp : sA_pl A i ≤ 5) (hq : q < 6) (h1 : dnP (envA A) (sA_pl A i) = false) (h2 : dnP (envA A) q = false) : toS (envA A) (sitAft A i q) = movS (SA A) (sA_rt A i) (sA_sg A i) (sA_pl A i) q := by
  have e0 : toS (envA A) (if sA_pl A i < 5 then va_up (sit9 A) (sA_pl A i) 0 else sit9 A) = liftS (SA A) (sA_pl A i) := by
    unfold liftS SA
    by_cases h5 : sA_pl A i < 5
    · rw [if_pos h5, if_pos h5, toS_up h5 h1]
      rfl
    · rw [if_neg h5, if_neg h5]
  unfold sitAft movS
  by_cases hq5 : q = 5
  · rw [if_pos hq5]
    exact (if_pos hq5).trans rfl ▸ e0
  · rw [if_neg hq5]
    have e1 : toS (envA A) (va_up (if sA_pl A i < 5 then va_up (sit9 A) (sA_pl A i) 0 else sit9 A) q (if q < 4 then dgt A i + 1 else dgt A i)) = va_up (liftS (SA A) (sA_pl A i)) q (putM q (sA_rt A i) (sA_sg A i)) := by
      rw [toS_up (by omega) h2, e0]
      congr 1
      unfold mkD putM dgt
      by_cases h4 : q < 4
      · rw [if_pos h4, if_pos h4, if_neg (by omega), if_neg (by omega)]
        omega
      · have h4' : q = 4 := by omega
        rw [if_neg h4, if_neg h4, if_neg (by omega), if_pos h4']
        omega
    exact (if_neg hq5).trans rfl ▸ e1
def okD (S : Nat → Nat) : Prop := ∀ p, p < 4 → S p = 0 ∨ 1 ≤ S p % 4
theorem phi_31 {S : Nat → Nat} (h : okD S) : phi S ≤ 31 := by
  have h1 : phi S ≤ s5 (fun p => if p = 4 then 7 else 6) := by
    refine s5_le (fun p hp => ?_)
    unfold pot
    by_cases h4 : p = 4
    · rw [if_pos h4, if_pos h4]
      split <;> omega
    · rw [if_neg h4, if_neg h4]
      simp only [m_s]
      rcases h p (by omega) with h0 | h0
      · rw [if_pos h0]; omega
      · split <;> omega
  exact h1
theorem okD_SA {A : St} (hI : Inv A) : okD (SA A) := by
  intro p hp
  have h9 := ok9_sit hI p (by omega)
  unfold SA toS mkD
  rw [if_pos (by omega)]
  by_cases hd : dnP (envA A) p = true
  · rw [if_pos hd]; exact Or.inl rfl
  · rw [if_neg hd]
    by_cases h0 : sit9 A p = 0
    · rw [if_pos h0]; exact Or.inl rfl
    · rw [if_neg h0, if_neg (by omega)]
      have := (h9.2 h0).2 hp
      exact Or.inr (by omega)
theorem okD_up0 {S : Nat → Nat} {p : Nat} (h : okD S) : okD (va_up S p 0) := by
  intro x hx
  unfold va_up
  split
  · exact Or.inl rfl
  · exact h x hx
theorem okD_mov {S : Nat → Nat} {r g p q : Nat} (h : okD S) (hr : r < 2) (hg : g < 4) (hg3 : q < 4 → g < 3) : okD (movS S r g p q) := by
  have h1 : okD (liftS S p) := by
    unfold liftS
    split
    · exact okD_up0 h
    · exact h
  unfold movS
  split
  · exact h1
  · intro x hx
    unfold va_up
    split
    · next e =>
      subst e
      unfold putM
      rw [if_neg (by omega), if_pos hx]
      have := hg3 hx
      exact Or.inr (by omega)
    · exact h1 x hx
theorem fit_mov {S : Nat → Nat} {r g p q : Nat} (h : fitS S) (hq : q < 6) (hr : r < 2) (hg : g < 4) (hg3 : q < 4 → g < 3) : fitS (movS S r g p q) := by
  have h1 : fitS (liftS S p) := by
    unfold liftS
    split
    · exact fit_up0 h
    · exact h
  unfold movS
  split
  · exact h1
  · obtain ⟨f1, f2, f3⟩ := h1
    refine ⟨fun x hx => ?_, ?_, fun x hx => ?_⟩
    · unfold va_up
      split
      · next e =>
        subst e
        unfold putM
        rw [if_neg (by omega), if_pos hx]
        have := hg3 hx
        omega
      · exact f1 x hx
    · unfold va_up
      split
      · next e =>
        subst e
        unfold putM
        rw [if_pos rfl, if_neg (by omega)]
        omega
      · exact f2
    · unfold va_up
      split
      · omega
      · exact f3 x hx
theorem sitAfter_nI {A : St} {i q : Nat} (hI : Inv A) (hi : i < sA_n A) (hq : q < 6) (hl : leadN (sA_dn A) (mskN (envA A) (sA_rt A i) (sA_sg A i)) (sA_pl A i) q = true) (ht : q = sA_pl A i ∨ inP A q = -1) : f_T_situationAfter A i (nI q) = nI (enc (movS (SA A) (sA_rt A i) (sA_sg A i) (sA_pl A i) q)) := by
  obtain ⟨w1, w2, w3, -⟩ := hI.2.2.1 i hi
  have h3 := hI.2.1.1 (sA_rt A i)
  unfold f_T_situationAfter f_T_situation
  refine after_nI (SA_fit hI) (by omega) hq w1 (by omega) (fun h4 => mskN_pos (lead_q4 hl h4) (env_ok hI.2.1)) ?_
  by_cases h5 : q = 5
  · exact Or.inl h5
  · rcases ht with h | h
    · exact Or.inr (Or.inl h)
    · refine Or.inr (Or.inr ?_)
      rcases sit9_cases hI.2.2.2.1 (show q < 5 by omega) with ⟨h1, -⟩ | ⟨j, hj, -, -, h2⟩
      · unfold SA toS mkD
        rw [if_pos (by omega), h1]
        simp
      · rw [h2] at h
        exfalso
        have : (nI j).toInt = -1 := by rw [h]; rfl
        rw [nI_toInt (by have := hI.1; omega)] at this
        omega
theorem RC_memo {G : Gc} {A : St} {kn ps : Nat → Int64} (hC : RC G A) (hm : MI (envA A) kn ps) (hn : 0 < sA_n A) : RC (gU_ps (gU_kn G kn) ps) A := ⟨hC.1, hC.2.1, hC.2.2.1, hm, fun z => by omega⟩

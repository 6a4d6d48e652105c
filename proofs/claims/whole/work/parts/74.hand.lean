/-! The reference's may. Own work. -/
abbrev gE (G : Gr) (kn tr tu : Nat → Int32) (st : Bool) : Gr := rU_st (rU_tu (rU_tr (rU_kn G kn) tr) tu) st
/-- what a method of the reference that only looks says at its end -/
def MR (G : Gr) (A : St) (F : Int32) (ans : Int32) (u : Gr × St) : Prop := ans = F ∧ ∃ kn tr tu st, RR (gE G kn tr tu st) A ∧ u = (gE G kn tr tu st, A)
/-- what a public writer of the reference says at its end -/
def BP (G : Gr) (F : Int32) (A' : St) (ans : Int32) (u : Gr × St) : Prop := ans = F ∧ u.2 = A' ∧ RR u.1 A' ∧ rA_ad u.1 0 = rA_ad G 0
theorem pidx_no1 {y : Int32} (h : y < 0) : pidx y = none := by unfold pidx; rw [if_neg (fun z => i32_le.mpr z.1 h)]
theorem pidx_no2 {y : Int32} (h : ¬ y ≤ 5) : pidx y = none := by unfold pidx; rw [if_neg (fun z => h z.2)]
theorem pidx_yes {y : Int32} (h : ¬ y < 0) (h2 : y ≤ 5) : ∃ q : Nat, q < 6 ∧ y = nI q := by
  obtain ⟨j, hj, rfl⟩ := nI_of h
  exact ⟨j, by have := (nI_leI (a := j) (b := 5) hj (by omega)).mp h2; omega, rfl⟩
theorem mayF_n1 {A : St} {x y : Int32} (h : widx A x = none) : mayF A x y = -1 := by unfold mayF; rw [oc_none h]
theorem mayF_n2 {A : St} {i : Nat} {y : Int32} (hn : sA_n A ≤ 25) (hi : i < sA_n A) (h : pidx y = none) : mayF A (nI i) y = -1 := by unfold mayF; rw [oc_some (widx_nI hi hn), oc_none h]
theorem inP_neg {A : St} {q : Nat} (hI : Inv A) (hq : q < 6) : inP A q < 0 ↔ inP A q = -1 := by
  have hn := hI.1
  constructor
  · intro h
    by_cases h5 : q < 5
    · rcases inP_cases hI.2.2.2.1 h5 with ⟨h1, -⟩ | ⟨i, hi, -, h1⟩
      · exact h1
      · rw [h1] at h; exact absurd h (nI_pos (by omega))
    · unfold inP; rw [if_neg h5]
  · intro h; rw [h]; decide
theorem tak_no {A : St} {i q : Nat} (hI : Inv A) (hi : i < sA_n A) (hq : q < 6) (h : inP A q < 0 ∨ inP A q = nI i) : ¬ (q ≠ sA_pl A i ∧ inP A q ≠ -1) := by
  rintro ⟨h1, h2⟩
  rcases h with h | h
  · exact h2 ((inP_neg hI hq).mp h)
  · have hn := hI.1
    have h5 : q < 5 := by
      by_cases h5 : q < 5
      · exact h5
      · exact absurd (by unfold inP; rw [if_neg h5]) h2
    rcases inP_cases hI.2.2.2.1 h5 with ⟨h3, -⟩ | ⟨j, hj, hp, h3⟩
    · exact h2 h3
    · rw [h3] at h
      have := (nI_eq (by omega) (by omega)).mp h
      subst this
      exact h1 hp.symm
theorem tak_yes {A : St} {i q : Nat} (hI : Inv A) (hi : i < sA_n A) (h1 : ¬ inP A q < 0) (h2 : ¬ inP A q = nI i) : q ≠ sA_pl A i ∧ inP A q ≠ -1 := by
  refine ⟨fun z => ?_, fun z => h1 (by rw [z]; decide)⟩
  subst z
  by_cases h5 : sA_pl A i < 5
  · exact h2 (inP_at hI.2.2.2.1 hi h5)
  · exact h1 (by unfold inP; rw [if_neg h5]; decide)
def sit1 (A : St) (i : Nat) : Nat → Nat := if sA_pl A i < 5 then va_up (sit9 A) (sA_pl A i) 0 else sit9 A
theorem sit9_at {A : St} {i : Nat} (hI : Inv A) (hi : i < sA_n A) (h : sA_pl A i < 5) : sit9 A (sA_pl A i) = dgt A i :=
  sitK_some rfl h hi (fun j hj hp => hI.2.2.2.1 j i hj hi hp (by omega))
theorem sit1_a {A : St} {i : Nat} (hI : Inv A) (hi : i < sA_n A) (h : sA_pl A i < 5) : f_M_situation A - f_M_digitOf A i * f_M_power (sA_pl A i) = nI (enc9 (sit1 A i)) := by
  have e := enc9_up (T := sit9 A) (v := 0) h
  rw [sit9_at hI hi h] at e
  unfold f_M_situation f_M_digitOf f_M_power sit1
  rw [if_pos h, pk_mul, pk_sub (by omega)]
  congr 1
  omega
theorem sit1_b {A : St} {i : Nat} (h : ¬ sA_pl A i < 5) : f_M_situation A - 0 = nI (enc9 (sit1 A i)) := by
  unfold f_M_situation sit1
  rw [if_neg h]
  simp
theorem sit1_0 {A : St} {i q : Nat} (hI : Inv A) (hi : i < sA_n A) (hq : q < 5) (h : ¬ (q ≠ sA_pl A i ∧ inP A q ≠ -1)) : sit1 A i q = 0 := by
  unfold sit1
  by_cases e : q = sA_pl A i
  · rw [if_pos (by omega), e, va_up_self]
  · have h2 : inP A q = -1 := by
      by_cases e2 : inP A q = -1
      · exact e2
      · exact absurd ⟨e, e2⟩ h
    have h3 : sit9 A q = 0 := by
      rcases sit9_cases hI.2.2.2.1 hq with ⟨h3, -⟩ | ⟨j, hj, -, -, h4⟩
      · exact h3
      · have hn := hI.1
        rw [h2] at h4
        exact absurd (show nI j < 0 by rw [← h4]; decide) (nI_pos (by omega))
    split
    · rw [va_up_ne _ _ e]; exact h3
    · exact h3
theorem sitAft_5 {A : St} {i q : Nat} (h : q = 5) : sitAft A i q = sit1 A i := by
  unfold sitAft sit1
  simp only [h, if_true]
theorem sitAft_n {A : St} {i q : Nat} (h : ¬ q = 5) : sitAft A i q = va_up (sit1 A i) q (if q < 4 then dgt A i + 1 else dgt A i) := by
  unfold sitAft sit1
  simp only [h, if_false]
theorem code_4 {A : St} {i q : Nat} (hI : Inv A) (hi : i < sA_n A) (hq : q < 6) (h5 : ¬ q = 5) (h4 : ¬ q < 4) (h : ¬ (q ≠ sA_pl A i ∧ inP A q ≠ -1)) : nI (enc9 (sit1 A i)) + f_M_power q * f_M_digitOf A i = nI (enc9 (sitAft A i q)) := by
  unfold f_M_digitOf
  rw [sitAft_n h5, if_neg h4, put9 (by omega) (sit1_0 hI hi (by omega) h)]
theorem code_3 {A : St} {i q : Nat} (hI : Inv A) (hi : i < sA_n A) (h4 : q < 4) (h : ¬ (q ≠ sA_pl A i ∧ inP A q ≠ -1)) : nI (enc9 (sit1 A i)) + f_M_power q * (f_M_digitOf A i + 1) = nI (enc9 (sitAft A i q)) := by
  unfold f_M_digitOf
  rw [sitAft_n (by omega), if_pos h4, nI_1, put9 (by omega) (sit1_0 hI hi (by omega) h)]
theorem ok9_sit1 {A : St} {i : Nat} (hI : Inv A) : ok9 (envA A) (sit1 A i) := by
  have h := ok9_sit hI
  unfold sit1
  split
  · intro x hx
    by_cases e : x = sA_pl A i
    · rw [e, va_up_self]; exact ⟨by omega, fun z => absurd rfl z⟩
    · rw [va_up_ne _ _ e]; exact h x hx
  · exact h
theorem ok9_sitAft {A : St} {i q : Nat} (hI : Inv A) (hi : i < sA_n A) (hq : q < 6) (hl : leadN (sA_dn A) (mskN (envA A) (sA_rt A i) (sA_sg A i)) (sA_pl A i) q = true) : ok9 (envA A) (sitAft A i q) := by
  have h := ok9_sit1 (i := i) hI
  obtain ⟨w1, w2, w3, w4, w5, -⟩ := hI.2.2.1 i hi
  have wl := hI.2.1.1 (sA_rt A i)
  by_cases h5 : q = 5
  · rw [sitAft_5 h5]; exact h
  · rw [sitAft_n h5]
    intro x hx
    by_cases e : x = q
    · rw [e, va_up_self]
      by_cases h4 : q < 4
      · have hs := lead_sg h4 hl
        rw [if_pos h4]
        unfold dgt
        refine ⟨by omega, fun _ => ?_⟩
        rw [show (1 + 4 * sA_rt A i + sA_sg A i + 1 - 1) / 4 = sA_rt A i by omega, show (1 + 4 * sA_rt A i + sA_sg A i + 1 - 1) % 4 = sA_sg A i + 1 by omega]
        exact ⟨hs, fun _ => by omega⟩
      · rw [if_neg h4]
        unfold dgt
        refine ⟨by omega, fun _ => ?_⟩
        rw [show (1 + 4 * sA_rt A i + sA_sg A i - 1) / 4 = sA_rt A i by omega, show (1 + 4 * sA_rt A i + sA_sg A i - 1) % 4 = sA_sg A i by omega]
        exact ⟨w2, fun z => absurd z h4⟩
    · rw [va_up_ne _ _ e]; exact h x hx
theorem sitAft_z {A : St} {i q : Nat} (hq : q < 6) : ∀ x, 5 ≤ x → sitAft A i q x = 0 := by
  intro x hx
  have h1 : sit1 A i x = 0 := by
    unfold sit1
    split
    · rw [va_up_ne _ _ (by omega)]; exact sitK_5 (by omega) _
    · exact sitK_5 (by omega) _
  by_cases h5 : q = 5
  · rw [sitAft_5 h5]; exact h1
  · rw [sitAft_n h5, va_up_ne _ _ (by omega)]; exact h1
theorem sitAft_d {A : St} {i q : Nat} (hI : Inv A) (hi : i < sA_n A) (hq : q < 6) (hl : leadN (sA_dn A) (mskN (envA A) (sA_rt A i) (sA_sg A i)) (sA_pl A i) q = true) : dig9 (enc9 (sitAft A i q)) = sitAft A i q ∧ enc9 (sitAft A i q) < 59049 :=
  ⟨dig9_enc (fun x hx => (ok9_sitAft hI hi hq hl x hx).1) (sitAft_z hq), enc9_lt (fun x hx => (ok9_sitAft hI hi hq hl x hx).1)⟩
theorem front_nI : ∀ x, x < 6 → ∀ y, y < 6 → f_M_byFront (nI x) (nI y) = !(backN x || backN y) := by decide +kernel
theorem sit9_d {A : St} (hI : Inv A) : dig9 (enc9 (sit9 A)) = sit9 A ∧ enc9 (sit9 A) < 59049 :=
  ⟨dig9_enc (fun x hx => (ok9_sit hI x hx).1) (fun x hx => sitK_5 (by omega) _), enc9_lt (fun x hx => (ok9_sit hI x hx).1)⟩
theorem nleL {n : Nat} (h : ¬ (0 : Int32) < nI n) (hn : n < 2 ^ 31) : n = 0 := by
  rcases Nat.eq_zero_or_pos n with h0 | h0
  · exact h0
  · exact absurd (nI_lt (a := 0) h0 hn) h
theorem ltL {n : Nat} (h : (0 : Int32) < nI n) : 0 < n := by
  rcases Nat.eq_zero_or_pos n with h0 | h0
  · rw [h0] at h; exact absurd h (by decide)
  · exact h0
theorem ge5 {q : Nat} (hq : q < 6) (h : (5 : Int32) ≤ nI q) : ¬ q < 5 := fun z => nI_ge (b := 5) z (by omega) h
theorem lt5 {q : Nat} (hq : q < 6) (h : ¬ (5 : Int32) ≤ nI q) : q < 5 := Nat.lt_of_not_le fun z => h (nI_le (a := 5) z (by omega))
theorem bnot_t {b : Bool} (h : (!b) = true) : b = false := by cases b <;> first | rfl | cases h
theorem bnot_f {b : Bool} (h : (!b) = false) : b = true := by cases b <;> first | rfl | cases h

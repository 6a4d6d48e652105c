/-! The reference's situations: digits below nine, and what the class sees of them. Own work. -/
def mkD (p d : Nat) : Nat := if d = 0 then 0 else d - 1 + (if p = 4 then 8 else 0)
def dnP (E : En) (p : Nat) : Bool := decide (p < 4) && (e_dn E).testBit p
def toS (E : En) (T : Nat → Nat) : Nat → Nat := fun p => if p < 5 then (if dnP E p then 0 else mkD p (T p)) else 0
/-- digits as they come up -/
def ok9 (E : En) (T : Nat → Nat) : Prop := ∀ p, p < 5 → T p < 9 ∧ (T p ≠ 0 → (T p - 1) % 4 ≤ e_len E ((T p - 1) / 4) ∧ (p < 4 → 1 ≤ (T p - 1) % 4))
def way9 (E : En) (r s p q : Nat) : Bool := leadN (e_dn E) (mskN E r s) p q
def free9 (T : Nat → Nat) (p q : Nat) : Bool := q == 5 || q == p || T q == 0
def mv9 (E : En) (T : Nat → Nat) (p q : Nat) : Bool := T p != 0 && free9 T p q && way9 E ((T p - 1) / 4) ((T p - 1) % 4) p q
def aft9 (T : Nat → Nat) (p q : Nat) : Nat → Nat := if q = 5 then va_up T p 0 else va_up (va_up T p 0) q (if q < 4 then T p + 1 else T p)
theorem lead_dn {E : En} {k p q : Nat} (hE : e_ok E) (h : leadN (e_dn E) k p q = true) : dnP E p = false ∧ dnP E q = false := by
  unfold leadN at h
  simp only [Bool.and_eq_true, Bool.not_eq_true'] at h
  unfold dnP
  rw [h.1.1.1, h.1.1.2]
  simp
theorem mkD_0 {E : En} {T : Nat → Nat} {p : Nat} (h : ok9 E T) (hp : p < 5) : mkD p (T p) = 0 ↔ T p = 0 := by
  unfold mkD
  constructor
  · intro h1
    by_cases h0 : T p = 0
    · exact h0
    · rw [if_neg h0] at h1
      have h2 := (h p hp).2 h0
      by_cases h4 : p = 4
      · rw [if_pos h4] at h1; omega
      · rw [if_neg h4] at h1
        have := h2.2 (by omega)
        omega
  · intro h1
    rw [if_pos h1]
theorem mkD_r {p d : Nat} (h0 : d ≠ 0) (h9 : d < 9) : m_r (mkD p d) = (d - 1) / 4 ∧ m_s (mkD p d) = (d - 1) % 4 := by
  unfold mkD
  rw [if_neg h0]
  simp only [m_r, m_s]
  split <;> omega
theorem okN_9 {E : En} {T : Nat → Nat} {p q : Nat} (hE : e_ok E) (h : ok9 E T) (hp : p < 5) (hq : q < 6) : okN E (toS E T) p q = mv9 E T p q := by
  unfold okN mv9
  by_cases hdp : dnP E p = true
  · have e1 : toS E T p = 0 := by simp [toS, hp, hdp]
    have e2 : way9 E ((T p - 1) / 4) ((T p - 1) % 4) p q = false := by
      cases hw : way9 E ((T p - 1) / 4) ((T p - 1) % 4) p q with
      | false => rfl
      | true =>
        have := (lead_dn hE hw).1
        rw [hdp] at this
        exact absurd this (by decide)
    rw [e1, e2]
    simp
  · have hdp : dnP E p = false := by simpa using hdp
    have e1 : toS E T p = mkD p (T p) := by simp [toS, hp, hdp]
    rw [e1]
    by_cases h0 : T p = 0
    · rw [(mkD_0 h hp).mpr h0, h0]
      simp
    · have hne : mkD p (T p) ≠ 0 := fun z => h0 ((mkD_0 h hp).mp z)
      obtain ⟨r1, r2⟩ := mkD_r (p := p) h0 (h p hp).1
      rw [r1, r2]
      show (_ != 0 && freeN (toS E T) p q && way9 E _ _ p q) = _
      cases hw : way9 E ((T p - 1) / 4) ((T p - 1) % 4) p q with
      | false => simp
      | true =>
        have hdq := (lead_dn hE hw).2
        have ef : freeN (toS E T) p q = free9 T p q := by
          unfold freeN free9
          by_cases hq5 : q = 5
          · simp [hq5]
          · have hq' : q < 5 := by omega
            have e3 : toS E T q = mkD q (T q) := by simp [toS, hq', hdq]
            rw [e3]
            congr 1
            rw [Bool.eq_iff_iff, beq_iff_eq, beq_iff_eq]
            exact mkD_0 h hq'
        rw [ef]
        have e4 : (mkD p (T p) != 0) = (T p != 0) := by
          rw [bne_iff_ne.mpr hne, bne_iff_ne.mpr h0]
        rw [e4]
theorem toS_up {E : En} {T : Nat → Nat} {q v : Nat} (hq : q < 5) (hd : dnP E q = false) : toS E (va_up T q v) = va_up (toS E T) q (mkD q v) := by
  funext x
  by_cases hx : x = q
  · subst hx
    simp [toS, va_up, hq, hd]
  · simp [toS, va_up, hx]
theorem aft_9 {E : En} {T : Nat → Nat} {p q : Nat} (hE : e_ok E) (h : ok9 E T) (hp : p < 5) (hq : q < 6) (hm : mv9 E T p q = true) : toS E (aft9 T p q) = aft (toS E T) p q := by
  unfold mv9 at hm
  simp only [Bool.and_eq_true, bne_iff_ne, ne_eq] at hm
  obtain ⟨⟨h0, -⟩, hw⟩ := hm
  obtain ⟨hdp, hdq⟩ := lead_dn hE hw
  have e1 : toS E T p = mkD p (T p) := by simp [toS, hp, hdp]
  obtain ⟨r1, r2⟩ := mkD_r (p := p) h0 (h p hp).1
  have m0 : mkD p 0 = 0 := by simp [mkD]
  unfold aft9 aft
  by_cases hq5 : q = 5
  · rw [if_pos hq5, if_pos hq5, toS_up hp hdp, m0]
  · have hq' : q < 5 := by omega
    rw [if_neg hq5, if_neg hq5, toS_up hq' hdq, toS_up hp hdp, m0, e1, r1, r2]
    congr 1
    unfold mkD putM
    by_cases hq4 : q < 4
    · rw [if_pos hq4, if_pos hq4, if_neg (by omega), if_neg (by omega)]
      omega
    · have : q = 4 := by omega
      subst this
      rw [if_neg hq4, if_neg hq4, if_neg h0, if_pos rfl]
      omega
theorem ok9_aft {E : En} {T : Nat → Nat} {p q : Nat} (hE : e_ok E) (h : ok9 E T) (hp : p < 5) (hq : q < 6) (hm : mv9 E T p q = true) : ok9 E (aft9 T p q) := by
  unfold mv9 at hm
  simp only [Bool.and_eq_true, bne_iff_ne, ne_eq] at hm
  obtain ⟨⟨h0, -⟩, hw⟩ := hm
  have key : ok9 E (va_up T p 0) := by
    intro x hx
    by_cases e : x = p
    · subst e
      simp [va_up]
    · rw [va_up_ne _ _ e]
      exact h x hx
  unfold aft9
  by_cases hq5 : q = 5
  · rw [if_pos hq5]
    exact key
  · rw [if_neg hq5]
    intro x hx
    by_cases e : x = q
    · subst e
      rw [va_up_self]
      obtain ⟨a1, a2⟩ := h p hp
      obtain ⟨a3, a4⟩ := a2 h0
      by_cases hq4 : x < 4
      · rw [if_pos hq4]
        have hk := lead_q4 hw hq4
        have hs := mskN_pos hk hE
        have hl : (T p - 1) % 4 < e_len E ((T p - 1) / 4) := by
          unfold mskN at hk
          split at hk
          · assumption
          · exact absurd rfl hk
        refine ⟨by omega, fun _ => ?_⟩
        have e1 : (T p + 1 - 1) / 4 = (T p - 1) / 4 := by omega
        have e2 : (T p + 1 - 1) % 4 = (T p - 1) % 4 + 1 := by omega
        rw [e1, e2]
        exact ⟨by omega, fun _ => by omega⟩
      · rw [if_neg hq4]
        exact ⟨a1, fun _ => ⟨a3, fun z => absurd z hq4⟩⟩
    · rw [va_up_ne _ _ e]
      exact key x hx
/-- nothing but what is in chambers that are down -/
def isE9 (E : En) (T : Nat → Nat) : Bool := (T 0 == 0 || dnP E 0) && (T 1 == 0 || dnP E 1) && (T 2 == 0 || dnP E 2) && (T 3 == 0 || dnP E 3) && (T 4 == 0 || dnP E 4)
theorem isE9_Z {E : En} {T : Nat → Nat} (h : ok9 E T) : isE9 E T = isZ (toS E T) := by
  have key : ∀ p, p < 5 → (T p == 0 || dnP E p) = (toS E T p == 0) := by
    intro p hp
    cases hd : dnP E p with
    | true => simp [toS, hp, hd]
    | false =>
      have e1 : toS E T p = mkD p (T p) := by simp [toS, hp, hd]
      rw [e1, Bool.or_false, Bool.eq_iff_iff, beq_iff_eq, beq_iff_eq]
      exact (mkD_0 h hp).symm
  unfold isE9 isZ
  rw [key 0 (by omega), key 1 (by omega), key 2 (by omega), key 3 (by omega), key 4 (by omega)]
def enc9 (T : Nat → Nat) : Nat := s5 (fun p => T p * 9 ^ p)
theorem enc9_eq (T : Nat → Nat) : enc9 T = T 0 + 9 * T 1 + 81 * T 2 + 729 * T 3 + 6561 * T 4 := by
  simp only [enc9, s5]
  omega
def dig9 (c p : Nat) : Nat := if p < 5 then c / 9 ^ p % 9 else 0
theorem dig9_enc {T : Nat → Nat} (h : ∀ p, p < 5 → T p < 9) (h5 : ∀ p, 5 ≤ p → T p = 0) : dig9 (enc9 T) = T := by
  have a0 := h 0 (by omega)
  have a1 := h 1 (by omega)
  have a2 := h 2 (by omega)
  have a3 := h 3 (by omega)
  have a4 := h 4 (by omega)
  funext p
  rw [enc9_eq]
  by_cases hp : p < 5
  · have h : p = 0 ∨ p = 1 ∨ p = 2 ∨ p = 3 ∨ p = 4 := by omega
    rcases h with rfl | rfl | rfl | rfl | rfl <;> simp [dig9] <;> omega
  · simp only [dig9, hp, if_false]
    exact (h5 p (by omega)).symm
theorem enc9_lt {T : Nat → Nat} (h : ∀ p, p < 5 → T p < 9) : enc9 T < 59049 := by
  have a0 := h 0 (by omega)
  have a1 := h 1 (by omega)
  have a2 := h 2 (by omega)
  have a3 := h 3 (by omega)
  have a4 := h 4 (by omega)
  rw [enc9_eq]
  omega
theorem enc9_up {T : Nat → Nat} {q v : Nat} (hq : q < 5) : enc9 (va_up T q v) + T q * 9 ^ q = enc9 T + v * 9 ^ q := by
  have hfun : (fun p => va_up T q v p * 9 ^ p) = va_up (fun p => T p * 9 ^ p) q (v * 9 ^ q) := by
    funext y
    by_cases hy : y = q
    · subst hy; simp [va_up]
    · simp [va_up, hy]
  unfold enc9
  rw [hfun]
  exact s5_up (f := fun p => T p * 9 ^ p) hq

/-! The mathematics of emptying: situations are functions from places to marks. Own work. -/
/-- a sum over the five places -/
def s5 (f : Nat → Nat) : Nat := f 0 + f 1 + f 2 + f 3 + f 4
theorem s5_up {f : Nat → Nat} {q v : Nat} (hq : q < 5) : s5 (va_up f q v) + f q = s5 f + v := by
  have h : q = 0 ∨ q = 1 ∨ q = 2 ∨ q = 3 ∨ q = 4 := by omega
  rcases h with rfl | rfl | rfl | rfl | rfl <;> simp [s5, va_up] <;> omega
theorem s5_le {f g : Nat → Nat} (h : ∀ p, p < 5 → f p ≤ g p) : s5 f ≤ s5 g := by
  have h0 := h 0 (by omega)
  have h1 := h 1 (by omega)
  have h2 := h 2 (by omega)
  have h3 := h 3 (by omega)
  have h4 := h 4 (by omega)
  simp only [s5]
  omega
theorem s5_ge {f : Nat → Nat} {q : Nat} (hq : q < 5) : f q ≤ s5 f := by
  have h : q = 0 ∨ q = 1 ∨ q = 2 ∨ q = 3 ∨ q = 4 := by omega
  rcases h with rfl | rfl | rfl | rfl | rfl <;> simp only [s5] <;> omega
/-- an environment of the ways: lengths of the routes, their masks, the bits of the chambers that are down -/
abbrev En : Type := (Nat → Nat) × (Nat → Nat → Nat) × Nat
abbrev e_len (E : En) : Nat → Nat := E.1
abbrev e_mk (E : En) : Nat → Nat → Nat := E.2.1
abbrev e_dn (E : En) : Nat := E.2.2
def e_ok (E : En) : Prop := (∀ r, e_len E r ≤ 3) ∧ (∀ r i, i < e_len E r → 1 ≤ e_mk E r i ∧ e_mk E r i < 16) ∧ e_dn E < 16
/-- the mask of a stage, 0 where the route is over -/
def mskN (E : En) (r s : Nat) : Nat := if s < e_len E r then e_mk E r s else 0
def backN (p : Nat) : Bool := p == 2 || p == 3
def nearN (p q : Nat) : Bool := (!(backN p) && !(backN q)) || ((backN p || p == 4) && (backN q || q == 4))
def homeN (p q : Nat) : Bool := if q = 5 then p != 5 else q == 4 && backN p
def beyN (p : Nat) : Nat := if p = 4 then 0 else if backN p then 3 else 12
/-- is there a way: down bits, the mask of the stage, from, to -/
def leadN (d k p q : Nat) : Bool := !(d.testBit p) && !(d.testBit q) && nearN p q && (if k = 0 then homeN p q else if q < 4 then k.testBit q else q == 4 && (k &&& beyN p) != 0)
/-- a mark at a place: 0 nothing, else 4 * route + stage, and 8 more in the pass -/
abbrev m_r (k : Nat) : Nat := k / 4 % 2
abbrev m_s (k : Nat) : Nat := k % 4
def freeN (S : Nat → Nat) (p q : Nat) : Bool := q == 5 || q == p || S q == 0
def okN (E : En) (S : Nat → Nat) (p q : Nat) : Bool := S p != 0 && freeN S p q && leadN (e_dn E) (mskN E (m_r (S p)) (m_s (S p))) p q
def putM (q r s : Nat) : Nat := (if q = 4 then 8 else 0) + 4 * r + (if q < 4 then s + 1 else s)
def aft (S : Nat → Nat) (p q : Nat) : Nat → Nat := if q = 5 then va_up S p 0 else va_up (va_up S p 0) q (putM q (m_r (S p)) (m_s (S p)))
def isZ (S : Nat → Nat) : Bool := S 0 == 0 && S 1 == 0 && S 2 == 0 && S 3 == 0 && S 4 == 0
def canF (E : En) : Nat → (Nat → Nat) → Bool
  | 0, S => isZ S
  | k + 1, S => isZ S || (List.range 30).any (fun t => okN E S (t / 6) (t % 6) && canF E k (aft S (t / 6) (t % 6)))
def canE (E : En) (S : Nat → Nat) : Bool := canF E 40 S
def pot (p k : Nat) : Nat := if k = 0 then 0 else 2 * (3 - m_s k) + (if p = 4 then 1 else 2)
def phi (S : Nat → Nat) : Nat := s5 (fun p => pot p (S p))
theorem any30 (f : Nat → Nat → Bool) : (List.range 30).any (fun t => f (t / 6) (t % 6)) = true ↔ ∃ p, p < 5 ∧ ∃ q, q < 6 ∧ f p q = true := by
  rw [List.any_eq_true]
  constructor
  · rintro ⟨t, ht, h⟩
    have ht := List.mem_range.mp ht
    exact ⟨t / 6, by omega, t % 6, by omega, h⟩
  · rintro ⟨p, hp, q, hq, h⟩
    refine ⟨6 * p + q, List.mem_range.mpr (by omega), ?_⟩
    have e1 : (6 * p + q) / 6 = p := by omega
    have e2 : (6 * p + q) % 6 = q := by omega
    rw [e1, e2]
    exact h
theorem lead_q4 {d k p q : Nat} (h : leadN d k p q = true) (hq : q < 4) : k ≠ 0 := by
  intro hk
  subst hk
  unfold leadN homeN at h
  simp at h
  have : q ≠ 5 := by omega
  have : q ≠ 4 := by omega
  simp_all
theorem lead_44 {d k p q : Nat} (h : leadN d k p q = true) (hq : q = 4) : p ≠ 4 := by
  intro hp
  subst hp; subst hq
  unfold leadN homeN beyN backN at h
  simp at h
theorem mskN_pos {E : En} {r s : Nat} (h : mskN E r s ≠ 0) (hE : e_ok E) : s < 3 := by
  unfold mskN at h
  split at h
  · have := hE.1 r
    omega
  · exact absurd rfl h
theorem mskN_lt {E : En} {r s : Nat} (hE : e_ok E) : mskN E r s < 16 := by
  unfold mskN
  split
  · next h => exact (hE.2.1 r s h).2
  · omega
theorem pot_put {E : En} {S : Nat → Nat} {p q : Nat} (hE : e_ok E) (hp : p < 5) (hq : q < 5) (h : okN E S p q = true) : pot q (putM q (m_r (S p)) (m_s (S p))) < pot p (S p) := by
  unfold okN at h
  simp only [Bool.and_eq_true, bne_iff_ne, ne_eq] at h
  obtain ⟨⟨h1, -⟩, h3⟩ := h
  by_cases hq4 : q < 4
  · have hs := mskN_pos (lead_q4 h3 hq4) hE
    have hq' : q ≠ 4 := by omega
    simp only [pot, putM, hq4, hq', h1, if_true, if_false, m_r, m_s] at hs ⊢
    split <;> split <;> omega
  · have hq4 : q = 4 := by omega
    have hp4 := lead_44 h3 hq4
    subst hq4
    simp only [pot, putM, hp4, h1, if_true, if_false, m_r, m_s]
    (repeat' split) <;> omega
theorem phi_aft {E : En} {S : Nat → Nat} {p q : Nat} (hE : e_ok E) (hp : p < 5) (hq : q < 6) (h : okN E S p q = true) : phi (aft S p q) < phi S := by
  have hS : S p ≠ 0 := by
    unfold okN at h
    simp only [Bool.and_eq_true, bne_iff_ne, ne_eq] at h
    exact h.1.1
  have hfun : ∀ (T : Nat → Nat) (x v : Nat), (fun y => pot y (va_up T x v y)) = va_up (fun y => pot y (T y)) x (pot x v) := by
    intro T x v
    funext y
    by_cases hy : y = x
    · subst hy; simp [va_up]
    · simp [va_up, hy]
  have hp0 : 0 < pot p (S p) := by
    unfold pot
    rw [if_neg hS]
    split <;> omega
  have h0 : pot p 0 = 0 := by simp [pot]
  have e1 := s5_up (f := fun y => pot y (S y)) (v := pot p 0) hp
  rw [h0] at e1
  by_cases hq5 : q = 5
  · unfold aft phi
    rw [if_pos hq5, hfun, h0]
    omega
  · have hq4 : q < 5 := by omega
    unfold aft phi
    rw [if_neg hq5, hfun, hfun, h0]
    have e2 := s5_up (f := va_up (fun y => pot y (S y)) p 0) (v := pot q (putM q (m_r (S p)) (m_s (S p)))) hq4
    have e3 := pot_put hE hp hq4 h
    omega
theorem isZ_iff {S : Nat → Nat} : isZ S = true ↔ ∀ p, p < 5 → S p = 0 := by
  unfold isZ
  simp only [Bool.and_eq_true, beq_iff_eq]
  constructor
  · rintro ⟨⟨⟨⟨h0, h1⟩, h2⟩, h3⟩, h4⟩ p hp
    have h : p = 0 ∨ p = 1 ∨ p = 2 ∨ p = 3 ∨ p = 4 := by omega
    rcases h with rfl | rfl | rfl | rfl | rfl <;> assumption
  · intro h
    exact ⟨⟨⟨⟨h 0 (by omega), h 1 (by omega)⟩, h 2 (by omega)⟩, h 3 (by omega)⟩, h 4 (by omega)⟩
theorem phi_0 {S : Nat → Nat} (h : phi S = 0) : isZ S = true := by
  rw [isZ_iff]
  intro p hp
  have h1 := s5_ge (f := fun y => pot y (S y)) hp
  unfold phi at h
  rw [h] at h1
  by_cases h2 : S p = 0
  · exact h2
  · exfalso
    simp only [pot, h2, if_false] at h1
    split at h1 <;> omega
theorem can_stab {E : En} (hE : e_ok E) : ∀ (k : Nat) (S : Nat → Nat), phi S ≤ k → canF E (k + 1) S = canF E k S := by
  intro k
  induction k with
  | zero =>
    intro S h
    have hz := phi_0 (Nat.le_zero.mp h)
    simp [canF, hz]
  | succ k ih =>
    intro S h
    have e : ∀ t, t ∈ List.range 30 → (okN E S (t / 6) (t % 6) && canF E (k + 1) (aft S (t / 6) (t % 6))) = (okN E S (t / 6) (t % 6) && canF E k (aft S (t / 6) (t % 6))) := by
      intro t ht
      have ht := List.mem_range.mp ht
      cases hok : okN E S (t / 6) (t % 6) with
      | false => rfl
      | true =>
        have h2 := phi_aft hE (by omega : t / 6 < 5) (by omega : t % 6 < 6) hok
        rw [ih _ (by omega)]
    have e2 : (List.range 30).any (fun t => okN E S (t / 6) (t % 6) && canF E (k + 1) (aft S (t / 6) (t % 6))) = (List.range 30).any (fun t => okN E S (t / 6) (t % 6) && canF E k (aft S (t / 6) (t % 6))) := by
      rw [Bool.eq_iff_iff, List.any_eq_true, List.any_eq_true]
      constructor
      · rintro ⟨t, ht, h3⟩
        exact ⟨t, ht, by rw [← e t ht]; exact h3⟩
      · rintro ⟨t, ht, h3⟩
        exact ⟨t, ht, by rw [e t ht]; exact h3⟩
    rw [canF, canF, e2]
/-- a situation can be emptied: it is, or there is a way behind which it can -/
theorem canE_iff {E : En} (hE : e_ok E) {S : Nat → Nat} (h : phi S ≤ 40) : canE E S = true ↔ isZ S = true ∨ ∃ p, p < 5 ∧ ∃ q, q < 6 ∧ okN E S p q = true ∧ canE E (aft S p q) = true := by
  unfold canE
  rw [← can_stab hE 40 S h, canF, Bool.or_eq_true, any30 (fun p q => okN E S p q && canF E 40 (aft S p q))]
  simp only [Bool.and_eq_true]
/-- marks fit their bits -/
def fitS (S : Nat → Nat) : Prop := (∀ p, p < 4 → S p < 8) ∧ S 4 < 16 ∧ ∀ p, 5 ≤ p → S p = 0
theorem fit_aft {E : En} {S : Nat → Nat} {p q : Nat} (hE : e_ok E) (hS : fitS S) (hp : p < 5) (hq : q < 6) (h : okN E S p q = true) : fitS (aft S p q) := by
  unfold okN at h
  simp only [Bool.and_eq_true, bne_iff_ne, ne_eq] at h
  obtain ⟨-, h3⟩ := h
  obtain ⟨f1, f2, f3⟩ := hS
  have key : fitS (va_up S p 0) := by
    refine ⟨fun x hx => ?_, ?_, fun x hx => ?_⟩
    · by_cases e : x = p
      · simp [va_up, e]
      · simp [va_up, e]; exact f1 x hx
    · by_cases e : 4 = p
      · simp [va_up, e]
      · simp [va_up, e]; exact f2
    · have e : x ≠ p := by omega
      simp [va_up, e]; exact f3 x hx
  unfold aft
  by_cases hq5 : q = 5
  · rw [if_pos hq5]; exact key
  · rw [if_neg hq5]
    obtain ⟨g1, g2, g3⟩ := key
    have hv : putM q (m_r (S p)) (m_s (S p)) < 16 ∧ (q < 4 → putM q (m_r (S p)) (m_s (S p)) < 8) := by
      by_cases hq4 : q < 4
      · have hs := mskN_pos (lead_q4 h3 hq4) hE
        have hq' : q ≠ 4 := by omega
        simp only [putM, hq4, hq', if_true, if_false, m_r, m_s] at hs ⊢
        omega
      · have hq' : q = 4 := by omega
        subst hq'
        simp only [putM, if_true, m_r, m_s]
        simp
        omega
    refine ⟨fun x hx => ?_, ?_, fun x hx => ?_⟩
    · by_cases e : x = q
      · subst e; simp only [va_up, if_true]; exact hv.2 hx
      · rw [va_up_ne _ _ e]; exact g1 x hx
    · by_cases e : 4 = q
      · subst e; simp only [va_up, if_true]; exact hv.1
      · rw [va_up_ne _ _ e]; exact g2
    · have e : x ≠ q := by omega
      rw [va_up_ne _ _ e]; exact g3 x hx
/-- the class's number of a situation -/
def enc (S : Nat → Nat) : Nat := s5 (fun p => S p * 8 ^ p)
theorem enc_eq (S : Nat → Nat) : enc S = S 0 + 8 * S 1 + 64 * S 2 + 512 * S 3 + 4096 * S 4 := by
  simp only [enc, s5]
  omega
theorem enc_lt {S : Nat → Nat} (h : fitS S) : enc S < 65536 := by
  obtain ⟨h1, h2, -⟩ := h
  have a0 := h1 0 (by omega)
  have a1 := h1 1 (by omega)
  have a2 := h1 2 (by omega)
  have a3 := h1 3 (by omega)
  rw [enc_eq]
  omega
theorem enc_up {S : Nat → Nat} {q v : Nat} (hq : q < 5) : enc (va_up S q v) + S q * 8 ^ q = enc S + v * 8 ^ q := by
  have hfun : (fun p => va_up S q v p * 8 ^ p) = va_up (fun p => S p * 8 ^ p) q (v * 8 ^ q) := by
    funext y
    by_cases hy : y = q
    · subst hy; simp [va_up]
    · simp [va_up, hy]
  unfold enc
  rw [hfun]
  exact s5_up (f := fun p => S p * 8 ^ p) hq
/-- the marks of a number -/
def dig (c p : Nat) : Nat := if p < 4 then c / 8 ^ p % 8 else if p = 4 then c / 4096 % 16 else 0
theorem dig_enc {S : Nat → Nat} (h : fitS S) : dig (enc S) = S := by
  obtain ⟨h1, h2, h3⟩ := h
  have a0 := h1 0 (by omega)
  have a1 := h1 1 (by omega)
  have a2 := h1 2 (by omega)
  have a3 := h1 3 (by omega)
  funext p
  rw [enc_eq]
  by_cases hp : p < 5
  · have h : p = 0 ∨ p = 1 ∨ p = 2 ∨ p = 3 ∨ p = 4 := by omega
    rcases h with rfl | rfl | rfl | rfl | rfl <;> simp [dig] <;> omega
  · have e1 : ¬ p < 4 := by omega
    have e2 : ¬ p = 4 := by omega
    simp only [dig, e1, e2, if_false]
    exact (h3 p (by omega)).symm
theorem enc_dig {c : Nat} (h : c < 65536) : enc (dig c) = c := by
  rw [enc_eq]
  simp [dig]
  omega
theorem fit_dig (c : Nat) : fitS (dig c) := by
  refine ⟨fun p hp => ?_, ?_, fun p hp => ?_⟩
  · simp only [dig, hp, if_true]; omega
  · simp [dig]; omega
  · have e1 : ¬ p < 4 := by omega
    have e2 : ¬ p = 4 := by omega
    simp only [dig, e1, e2, if_false]
theorem enc_0 {S : Nat → Nat} : enc S = 0 ↔ isZ S = true := by
  rw [isZ_iff, enc_eq]
  constructor
  · intro h p hp
    have h : p = 0 ∨ p = 1 ∨ p = 2 ∨ p = 3 ∨ p = 4 := by omega
    rcases h with rfl | rfl | rfl | rfl | rfl <;> omega
  · intro h
    have a0 := h 0 (by omega)
    have a1 := h 1 (by omega)
    have a2 := h 2 (by omega)
    have a3 := h 3 (by omega)
    have a4 := h 4 (by omega)
    omega

/-! The reference's search with a trail: its invariant and its measure. Own work. -/
abbrev canC (E : En) (a : Nat) : Bool := canE E (toS E (dig9 a))
abbrev phC (E : En) (a : Nat) : Nat := phi (toS E (dig9 a))
def KI (E : En) (K : Nat → Int32) : Prop := ∀ b, b < 59049 → ok9 E (dig9 b) → (k1 K b = true → canC E b = true) ∧ (k2 K b = true → canC E b = false)
def aftC (a t : Nat) : Nat := enc9 (aft9 (dig9 a) (t / 6) (t % 6))
abbrev mvC (E : En) (a t : Nat) : Bool := mv9 E (dig9 a) (t / 6) (t % 6)
theorem aft9_lt {E : En} {T : Nat → Nat} {x y : Nat} (hE : e_ok E) (h : ok9 E T) (h5 : ∀ q, 5 ≤ q → T q = 0) (hx : x < 5) (hy : y < 6) (hm : mv9 E T x y = true) : (∀ q, q < 5 → aft9 T x y q < 9) ∧ ∀ q, 5 ≤ q → aft9 T x y q = 0 := by
  refine ⟨fun q hq => (ok9_aft hE h hx hy hm q hq).1, fun q hq => ?_⟩
  have e1 : q ≠ x := by omega
  unfold aft9
  split
  · rw [va_up_ne _ _ e1]; exact h5 q hq
  · rw [va_up_ne _ _ (show q ≠ y by omega), va_up_ne _ _ e1]; exact h5 q hq
theorem aftC_ok {E : En} {a t : Nat} (hE : e_ok E) (h : ok9 E (dig9 a)) (ht : t < 30) (hm : mvC E a t = true) : aftC a t < 59049 ∧ dig9 (aftC a t) = aft9 (dig9 a) (t / 6) (t % 6) ∧ ok9 E (dig9 (aftC a t)) ∧ phC E (aftC a t) < phC E a := by
  obtain ⟨g1, g2⟩ := aft9_lt hE h (fun q hq => dig9_5 hq) (show t / 6 < 5 by omega) (show t % 6 < 6 by omega) hm
  have e := dig9_enc g1 g2
  have o := ok9_aft hE h (show t / 6 < 5 by omega) (show t % 6 < 6 by omega) hm
  refine ⟨enc9_lt g1, e, ?_, ?_⟩
  · unfold aftC; rw [e]; exact o
  · show phi (toS E (dig9 (enc9 _))) < _
    rw [e, aft_9 hE h (show t / 6 < 5 by omega) (show t % 6 < 6 by omega) hm]
    exact phi_aft hE (by omega) (by omega) ((okN_9 hE h (show t / 6 < 5 by omega) (show t % 6 < 6 by omega)).trans hm)
theorem canC_iff {E : En} {a : Nat} (hE : e_ok E) (h : ok9 E (dig9 a)) (hp : phC E a ≤ 40) : canC E a = true ↔ isE9 E (dig9 a) = true ∨ ∃ t, t < 30 ∧ mvC E a t = true ∧ canC E (aftC a t) = true := by
  show canE E (toS E (dig9 a)) = true ↔ _
  rw [canE_iff hE hp, ← isE9_Z h]
  constructor
  · rintro (h1 | ⟨x, hx, y, hy, h2, h3⟩)
    · exact Or.inl h1
    · have e1 : (6 * x + y) / 6 = x := by omega
      have e2 : (6 * x + y) % 6 = y := by omega
      rw [okN_9 hE h hx hy] at h2
      have hm : mvC E a (6 * x + y) = true := by show mv9 E (dig9 a) ((6 * x + y) / 6) ((6 * x + y) % 6) = true; rw [e1, e2]; exact h2
      refine Or.inr ⟨6 * x + y, by omega, hm, ?_⟩
      show canE E (toS E (dig9 (aftC a (6 * x + y)))) = true
      rw [(aftC_ok hE h (by omega) hm).2.1, e1, e2, aft_9 hE h hx hy h2]
      exact h3
  · rintro (h1 | ⟨t, ht, hm, h3⟩)
    · exact Or.inl h1
    · refine Or.inr ⟨t / 6, by omega, t % 6, by omega, (okN_9 hE h (by omega) (by omega)).trans hm, ?_⟩
      rw [← aft_9 hE h (show t / 6 < 5 by omega) (show t % 6 < 6 by omega) hm, ← (aftC_ok hE h ht hm).2.1]
      exact h3
/-- the trail: codes, turns; what was tried below the top and at the top -/
def SV (E : En) (a : Nat) (K : Nat → Int32) (d : Nat) (cd tn : Nat → Nat) : Prop :=
  KI E K ∧ cd 0 = a ∧ (∀ j, j ≤ d → cd j < 59049 ∧ ok9 E (dig9 (cd j)) ∧ tn j ≤ 30 ∧ phC E (cd j) + j ≤ 31) ∧
  (∀ j, j < d → k1 K (cd j) = false ∧ k2 K (cd j) = false ∧ 1 ≤ tn j ∧ mvC E (cd j) (tn j - 1) = true ∧ cd (j + 1) = aftC (cd j) (tn j - 1) ∧ ∀ t, t < tn j - 1 → mvC E (cd j) t = true → canC E (aftC (cd j) t) = false) ∧
  (k1 K (cd d) = false → k2 K (cd d) = false → ∀ t, t < tn d → mvC E (cd d) t = true → canC E (aftC (cd d) t) = false)
def pw (E : En) (cd tn : Nat → Nat) : Nat → Nat
  | 0 => (31 - tn 0) * 32 ^ phC E (cd 0)
  | j + 1 => pw E cd tn j + (31 - tn (j + 1)) * 32 ^ phC E (cd (j + 1))
def muS (E : En) (K : Nat → Int32) (d : Nat) (cd tn : Nat → Nat) : Nat := 2 * pw E cd tn d + (if k1 K (cd d) = false ∧ k2 K (cd d) = false then 1 else 0)
theorem pw_s (E : En) (cd tn : Nat → Nat) (j : Nat) : pw E cd tn (j + 1) = pw E cd tn j + (31 - tn (j + 1)) * 32 ^ phC E (cd (j + 1)) := rfl
theorem pw_congr {E : En} {cd tn cd' tn' : Nat → Nat} : ∀ {d : Nat}, (∀ j, j ≤ d → cd' j = cd j ∧ tn' j = tn j) → pw E cd' tn' d = pw E cd tn d
  | 0, h => by unfold pw; rw [(h 0 (Nat.le_refl _)).1, (h 0 (Nat.le_refl _)).2]
  | d + 1, h => by rw [pw_s, pw_s, pw_congr (fun j hj => h j (by omega)), (h (d + 1) (Nat.le_refl _)).1, (h (d + 1) (Nat.le_refl _)).2]
/-- one turn more at the top -/
theorem pw_turn {E : En} {cd tn : Nat → Nat} {d : Nat} (h : tn d < 30) : pw E cd (va_up tn d (tn d + 1)) d + 32 ^ phC E (cd d) = pw E cd tn d := by
  have key : (31 - (tn d + 1)) * 32 ^ phC E (cd d) + 32 ^ phC E (cd d) = (31 - tn d) * 32 ^ phC E (cd d) := by
    rw [← Nat.succ_mul]
    congr 1
    omega
  cases d with
  | zero =>
    unfold pw
    rw [va_up_self]
    exact key
  | succ d =>
    rw [pw_s, pw_s, va_up_self, pw_congr (E := E) (cd := cd) (tn := tn) (cd' := cd) (tn' := va_up tn (d + 1) (tn (d + 1) + 1)) (fun j hj => ⟨rfl, va_up_ne _ _ (by omega)⟩), Nat.add_assoc, key]
theorem mu_b {E : En} {K : Nat → Int32} {d : Nat} {cd tn : Nat → Nat} : muS E K d cd tn ≤ 2 * pw E cd tn d + 1 := by
  unfold muS
  split <;> omega
theorem KI_1 {E : En} {K : Nat → Int32} {b : Nat} (h : KI E K) (hb : canC E b = true) : KI E (knU K b 1) := by
  intro x hx ho
  obtain ⟨g1, g2⟩ := h x hx ho
  rw [(know1 (K := K) (a := b) (b := x)).1, (know1 (K := K) (a := b) (b := x)).2]
  refine ⟨fun z => ?_, g2⟩
  rw [Bool.or_eq_true, beq_iff_eq] at z
  rcases z with z | z
  · exact g1 z
  · rw [z]; exact hb
theorem KI_2 {E : En} {K : Nat → Int32} {b : Nat} (h : KI E K) (hb : canC E b = false) : KI E (knU K b 2) := by
  intro x hx ho
  obtain ⟨g1, g2⟩ := h x hx ho
  rw [(know2 (K := K) (a := b) (b := x)).1, (know2 (K := K) (a := b) (b := x)).2]
  refine ⟨g1, fun z => ?_⟩
  rw [Bool.or_eq_true, beq_iff_eq] at z
  rcases z with z | z
  · exact g2 z
  · rw [z]; exact hb
/-- codes along the trail differ: the potential falls -/
theorem SV_fall {E : En} {a : Nat} {K : Nat → Int32} {d : Nat} {cd tn : Nat → Nat} (hE : e_ok E) (h : SV E a K d cd tn) : ∀ k j, j + k + 1 ≤ d → phC E (cd (j + k + 1)) < phC E (cd j) := by
  obtain ⟨-, -, h3, h4, -⟩ := h
  intro k
  induction k with
  | zero =>
    intro j hj
    obtain ⟨-, -, g1, g2, g3, -⟩ := h4 j (by omega)
    obtain ⟨-, o, t3, -⟩ := h3 j (by omega)
    show phC E (cd (j + 1)) < _
    rw [g3]
    exact (aftC_ok hE o (by omega) g2).2.2.2
  | succ k ih =>
    intro j hj
    have h1 := ih j (by omega)
    obtain ⟨-, -, g1, g2, g3, -⟩ := h4 (j + k + 1) (by omega)
    obtain ⟨-, o, t3, -⟩ := h3 (j + k + 1) (by omega)
    have h2 : phC E (cd (j + k + 1 + 1)) < phC E (cd (j + k + 1)) := by
      rw [g3]
      exact (aftC_ok hE o (by omega) g2).2.2.2
    have h3 : phC E (cd (j + (k + 1) + 1)) = phC E (cd (j + k + 1 + 1)) := rfl
    omega
theorem SV_ne {E : En} {a : Nat} {K : Nat → Int32} {d : Nat} {cd tn : Nat → Nat} (hE : e_ok E) (h : SV E a K d cd tn) {j : Nat} (hj : j < d) : cd j ≠ cd d := by
  intro z
  have h1 := SV_fall hE h (d - j - 1) j (by omega)
  rw [show j + (d - j - 1) + 1 = d by omega, z] at h1
  omega
/-- a word about the top -/
theorem SV_know1 {E : En} {a : Nat} {K : Nat → Int32} {d : Nat} {cd tn : Nat → Nat} (hE : e_ok E) (h : SV E a K d cd tn) (hc : canC E (cd d) = true) : SV E a (knU K (cd d) 1) d cd tn ∧ k1 (knU K (cd d) 1) (cd d) = true := by
  have hk : k1 (knU K (cd d) 1) (cd d) = true := by rw [know1.1]; simp
  refine ⟨⟨KI_1 h.1 hc, h.2.1, h.2.2.1, fun j hj => ?_, fun z => ?_⟩, hk⟩
  · obtain ⟨g1, g2, g3⟩ := h.2.2.2.1 j hj
    refine ⟨?_, ?_, g3⟩
    · rw [know1.1, g1, beq_eq_false_iff_ne.mpr (SV_ne hE h hj)]; rfl
    · rw [know1.2]; exact g2
  · rw [hk] at z; cases z
theorem SV_know2 {E : En} {a : Nat} {K : Nat → Int32} {d : Nat} {cd tn : Nat → Nat} (hE : e_ok E) (h : SV E a K d cd tn) (hc : canC E (cd d) = false) : SV E a (knU K (cd d) 2) d cd tn ∧ k2 (knU K (cd d) 2) (cd d) = true := by
  have hk : k2 (knU K (cd d) 2) (cd d) = true := by rw [know2.2]; simp
  refine ⟨⟨KI_2 h.1 hc, h.2.1, h.2.2.1, fun j hj => ?_, fun _ z => ?_⟩, hk⟩
  · obtain ⟨g1, g2, g3⟩ := h.2.2.2.1 j hj
    refine ⟨?_, ?_, g3⟩
    · rw [know2.1]; exact g1
    · rw [know2.2, g2, beq_eq_false_iff_ne.mpr (SV_ne hE h hj)]; rfl
  · rw [hk] at z; cases z
/-- empty at the top -/
theorem SV_empty {E : En} {a : Nat} {K : Nat → Int32} {d : Nat} {cd tn : Nat → Nat} (hE : e_ok E) (h : SV E a K d cd tn) (he : isE9 E (dig9 (cd d)) = true) : SV E a (knU K (cd d) 1) d cd tn ∧ k1 (knU K (cd d) 1) (cd d) = true := by
  obtain ⟨g1, g2, g3, g4⟩ := h.2.2.1 d (Nat.le_refl _)
  exact SV_know1 hE h ((canC_iff hE g2 (by omega)).mpr (Or.inl he))
/-- all tried at the top -/
theorem SV_30 {E : En} {a : Nat} {K : Nat → Int32} {d : Nat} {cd tn : Nat → Nat} (hE : e_ok E) (h : SV E a K d cd tn) (u1 : k1 K (cd d) = false) (u2 : k2 K (cd d) = false) (he : isE9 E (dig9 (cd d)) = false) (ht : tn d = 30) : SV E a (knU K (cd d) 2) d cd tn ∧ k2 (knU K (cd d) 2) (cd d) = true := by
  obtain ⟨g1, g2, g3, g4⟩ := h.2.2.1 d (Nat.le_refl _)
  refine SV_know2 hE h (Bool.eq_false_iff.mpr fun z => ?_)
  rcases (canC_iff hE g2 (by omega)).mp z with z | ⟨t, t1, t2, t3⟩
  · rw [he] at z; cases z
  · rw [h.2.2.2.2 u1 u2 t (by omega) t2] at t3; cases t3
theorem mu_known {E : En} {K K' : Nat → Int32} {d : Nat} {cd tn : Nat → Nat} (u1 : k1 K (cd d) = false) (u2 : k2 K (cd d) = false) (hk : k1 K' (cd d) = true ∨ k2 K' (cd d) = true) : muS E K' d cd tn < muS E K d cd tn := by
  have e1 : (if k1 K (cd d) = false ∧ k2 K (cd d) = false then 1 else 0) = 1 := if_pos ⟨u1, u2⟩
  have e2 : (if k1 K' (cd d) = false ∧ k2 K' (cd d) = false then 1 else 0) = 0 := if_neg (fun z => by
    rcases hk with h | h
    · rw [h] at z; cases z.1
    · rw [h] at z; cases z.2)
  unfold muS
  rw [e1, e2]
  omega
theorem mu_pop {E : En} {a : Nat} {K K' : Nat → Int32} {d : Nat} {cd tn : Nat → Nat} (h : SV E a K (d + 1) cd tn) : muS E K' d cd tn < muS E K (d + 1) cd tn := by
  have h1 := mu_b (E := E) (K := K') (d := d) (cd := cd) (tn := tn)
  have h2 : 2 * pw E cd tn (d + 1) ≤ muS E K (d + 1) cd tn := by unfold muS; omega
  rw [pw_s] at h2
  have h3 := (h.2.2.1 (d + 1) (Nat.le_refl _)).2.2.1
  have h4 : 0 < (31 - tn (d + 1)) * 32 ^ phC E (cd (d + 1)) := Nat.mul_pos (by omega) (Nat.pow_pos (by decide))
  omega
/-- down from a known top -/
theorem SV_pop1 {E : En} {a : Nat} {K : Nat → Int32} {d : Nat} {cd tn : Nat → Nat} (hE : e_ok E) (h : SV E a K (d + 1) cd tn) (hk : k1 K (cd (d + 1)) = true) : SV E a (knU K (cd d) 1) d cd tn := by
  obtain ⟨g1, g2, g3, g4, g5⟩ := h
  obtain ⟨c1, c2, c3, c4⟩ := g3 (d + 1) (Nat.le_refl _)
  obtain ⟨b1, b2, b3, b4⟩ := g3 d (by omega)
  obtain ⟨f1, f2, f3, f4, f5, f6⟩ := g4 d (by omega)
  have hc : canC E (cd d) = true := (canC_iff hE b2 (by omega)).mpr (Or.inr ⟨tn d - 1, by omega, f4, by rw [← f5]; exact (g1 _ c1 c2).1 hk⟩)
  have h' : SV E a K d cd tn ∨ True := Or.inr trivial
  have hk1 : k1 (knU K (cd d) 1) (cd d) = true := by rw [know1.1]; simp
  refine ⟨KI_1 g1 hc, g2, fun j hj => g3 j (by omega), fun j hj => ?_, fun z => ?_⟩
  · obtain ⟨q1, q2, q3⟩ := g4 j (by omega)
    refine ⟨?_, ?_, q3⟩
    · have hne : cd j ≠ cd d := by
        intro z
        have h1 := SV_fall hE (d := d + 1) ⟨g1, g2, g3, g4, g5⟩ (d - j - 1) j (by omega)
        rw [show j + (d - j - 1) + 1 = d by omega, z] at h1
        omega
      rw [know1.1, q1, beq_eq_false_iff_ne.mpr hne]; rfl
    · rw [know1.2]; exact q2
  · rw [hk1] at z; cases z
theorem SV_pop2 {E : En} {a : Nat} {K : Nat → Int32} {d : Nat} {cd tn : Nat → Nat} (h : SV E a K (d + 1) cd tn) (hk : k2 K (cd (d + 1)) = true) : SV E a K d cd tn := by
  obtain ⟨g1, g2, g3, g4, g5⟩ := h
  obtain ⟨c1, c2, c3, c4⟩ := g3 (d + 1) (Nat.le_refl _)
  obtain ⟨f1, f2, f3, f4, f5, f6⟩ := g4 d (by omega)
  refine ⟨g1, g2, fun j hj => g3 j (by omega), fun j hj => g4 j (by omega), fun _ _ t ht hm => ?_⟩
  by_cases e : t = tn d - 1
  · rw [e, ← f5]; exact (g1 _ c1 c2).2 hk
  · exact f6 t (by omega) hm
/-- a turn that is no move -/
theorem SV_no {E : En} {a : Nat} {K : Nat → Int32} {d : Nat} {cd tn : Nat → Nat} (h : SV E a K d cd tn) (ht : tn d < 30) (hm : mvC E (cd d) (tn d) = false) : SV E a K d cd (va_up tn d (tn d + 1)) := by
  obtain ⟨g1, g2, g3, g4, g5⟩ := h
  refine ⟨g1, g2, fun j hj => ?_, fun j hj => ?_, fun u1 u2 t h1 h2 => ?_⟩
  · obtain ⟨c1, c2, c3, c4⟩ := g3 j hj
    refine ⟨c1, c2, ?_, c4⟩
    by_cases e : j = d
    · rw [e, va_up_self]; omega
    · rw [va_up_ne _ _ e]; exact c3
  · rw [va_up_ne _ _ (show j ≠ d by omega)]
    exact g4 j hj
  · rw [va_up_self] at h1
    by_cases e : t = tn d
    · rw [e, hm] at h2; cases h2
    · exact g5 u1 u2 t (by omega) h2
theorem mu_no {E : En} {K : Nat → Int32} {d : Nat} {cd tn : Nat → Nat} (ht : tn d < 30) : muS E K d cd (va_up tn d (tn d + 1)) < muS E K d cd tn := by
  have h := pw_turn (E := E) (cd := cd) ht
  have h2 : 0 < 32 ^ phC E (cd d) := Nat.pow_pos (by decide)
  unfold muS
  omega
/-- a turn that is one -/
theorem SV_push {E : En} {a : Nat} {K : Nat → Int32} {d : Nat} {cd tn : Nat → Nat} (hE : e_ok E) (h : SV E a K d cd tn) (u1 : k1 K (cd d) = false) (u2 : k2 K (cd d) = false) (ht : tn d < 30) (hm : mvC E (cd d) (tn d) = true) :
    SV E a K (d + 1) (va_up cd (d + 1) (aftC (cd d) (tn d))) (va_up (va_up tn d (tn d + 1)) (d + 1) 0) := by
  obtain ⟨g1, g2, g3, g4, g5⟩ := h
  obtain ⟨c1, c2, c3, c4⟩ := g3 d (Nat.le_refl _)
  obtain ⟨k1', k2', k3', k4'⟩ := aftC_ok hE c2 ht hm
  refine ⟨g1, by rw [va_up_ne _ _ (by omega)]; exact g2, fun j hj => ?_, fun j hj => ?_, fun _ _ t h1 => ?_⟩
  · by_cases e : j = d + 1
    · rw [e, va_up_self, va_up_self]
      exact ⟨k1', k3', by omega, by omega⟩
    · rw [va_up_ne _ _ e, va_up_ne _ _ e]
      obtain ⟨b1, b2, b3, b4⟩ := g3 j (by omega)
      refine ⟨b1, b2, ?_, b4⟩
      by_cases e2 : j = d
      · rw [e2, va_up_self]; omega
      · rw [va_up_ne _ _ e2]; exact b3
  · rw [va_up_ne _ _ (show j ≠ d + 1 by omega), va_up_ne _ _ (show j ≠ d + 1 by omega)]
    by_cases e : j = d
    · subst e
      rw [va_up_self, va_up_self, show tn j + 1 - 1 = tn j by omega]
      exact ⟨u1, u2, by omega, hm, rfl, fun t h1 h2 => g5 u1 u2 t h1 h2⟩
    · rw [va_up_ne _ _ e, va_up_ne _ _ (show j + 1 ≠ d + 1 by omega)]
      exact g4 j (by omega)
  · rw [va_up_self] at h1
    omega
theorem mu_push {E : En} {a : Nat} {K : Nat → Int32} {d : Nat} {cd tn : Nat → Nat} (hE : e_ok E) (h : SV E a K d cd tn) (u1 : k1 K (cd d) = false) (u2 : k2 K (cd d) = false) (ht : tn d < 30) (hm : mvC E (cd d) (tn d) = true) :
    muS E K (d + 1) (va_up cd (d + 1) (aftC (cd d) (tn d))) (va_up (va_up tn d (tn d + 1)) (d + 1) 0) < muS E K d cd tn := by
  have hk := (aftC_ok hE (h.2.2.1 d (Nat.le_refl _)).2.1 ht hm).2.2.2
  have h1 := mu_b (E := E) (K := K) (d := d + 1) (cd := va_up cd (d + 1) (aftC (cd d) (tn d))) (tn := va_up (va_up tn d (tn d + 1)) (d + 1) 0)
  rw [pw_s, va_up_self, va_up_self, pw_congr (E := E) (cd := cd) (tn := va_up tn d (tn d + 1)) (fun j hj => ⟨va_up_ne _ _ (by omega), va_up_ne _ _ (by omega)⟩)] at h1
  have h2 := pw_turn (E := E) (cd := cd) ht
  have h3 : 32 * 32 ^ phC E (aftC (cd d) (tn d)) ≤ 32 ^ phC E (cd d) := by
    rw [Nat.mul_comm, ← Nat.pow_succ]
    exact Nat.pow_le_pow_right (by decide) hk
  have h4 : 0 < 32 ^ phC E (aftC (cd d) (tn d)) := Nat.pow_pos (by decide)
  have e1 : (if k1 K (cd d) = false ∧ k2 K (cd d) = false then 1 else 0) = 1 := if_pos ⟨u1, u2⟩
  have e2 : muS E K d cd tn = 2 * pw E cd tn d + 1 := by unfold muS; rw [e1]
  omega
theorem SV_0 {E : En} {a : Nat} {K : Nat → Int32} (hk : KI E K) (ha : a < 59049) (ho : ok9 E (dig9 a)) (hp : phC E a ≤ 31) : SV E a K 0 (fun _ => a) (fun _ => 0) :=
  ⟨hk, rfl, fun j hj => ⟨ha, ho, Nat.zero_le _, by show phC E a + j ≤ 31; omega⟩, fun j hj => absurd hj (Nat.not_lt_zero _), fun _ _ t h => absurd h (Nat.not_lt_zero _)⟩
theorem KI_0 {E : En} {K : Nat → Int32} (h : ∀ j, j < 3691 → K j = 0) : KI E K := by
  intro b hb _
  have e : K (b / 16) = 0 := h _ (by omega)
  have e0 : ∀ i, bt 0 i = false := fun i => BitVec.getLsbD_zero
  unfold k1 k2
  rw [e, e0, e0]
  exact ⟨fun z => Bool.noConfusion z, fun z => Bool.noConfusion z⟩
theorem kv_0 {x y : Bool} : nI (kvN x y) = 0 ↔ x = false ∧ y = false := by revert x y; decide +kernel
theorem kv_1 {x y : Bool} : nI (kvN x y) = 1 ↔ x = true ∧ y = false := by revert x y; decide +kernel
theorem kn_or {x y : Bool} (h : ¬ nI (kvN x y) = 0) : x = true ∨ y = true := by cases x <;> cases y <;> first | exact absurd rfl h | simp
theorem kn_2 {x y : Bool} (h : ¬ nI (kvN x y) = 0) (h1 : ¬ nI (kvN x y) = 1) : y = true := by cases x <;> cases y <;> first | exact absurd rfl h | exact absurd rfl h1 | rfl
theorem aft_neg {E : En} {a t : Nat} (hE : e_ok E) (ho : ok9 E (dig9 a)) (ht : t < 30) (h : aftI E a (t / 6) (t % 6) < 0) : mvC E a t = false := by
  cases hm : mvC E a t with
  | false => rfl
  | true =>
    unfold aftI at h
    rw [if_pos hm] at h
    exact absurd h (nI_pos (by have := (aftC_ok hE ho ht hm).1; unfold aftC at this; omega))
theorem aft_pos {E : En} {a t : Nat} (h : ¬ aftI E a (t / 6) (t % 6) < 0) : mvC E a t = true ∧ aftI E a (t / 6) (t % 6) = nI (aftC a t) := by
  cases hm : mvC E a t with
  | false =>
    unfold aftI at h
    rw [if_neg (nt_of hm)] at h
    exact absurd (by decide) h
  | true =>
    refine ⟨rfl, ?_⟩
    unfold aftI aftC
    rw [if_pos hm]
theorem phi_9 {E : En} {T : Nat → Nat} (h : ok9 E T) : phi (toS E T) ≤ 31 := by
  have hp : ∀ q, q < 5 → pot q (toS E T q) ≤ if q = 4 then 7 else 6 := by
    intro q hq
    unfold toS
    rw [if_pos hq]
    by_cases hd : dnP E q = true
    · rw [if_pos hd]
      unfold pot
      rw [if_pos rfl]
      omega
    · rw [if_neg hd]
      by_cases h0 : T q = 0
      · unfold mkD pot
        rw [if_pos h0, if_pos rfl]
        omega
      · obtain ⟨h9, h8⟩ := h q hq
        obtain ⟨r1, r2⟩ := mkD_r (p := q) h0 h9
        have h7 := (h8 h0).2
        unfold pot
        rw [r2]
        by_cases h4 : q = 4
        · rw [if_pos h4, if_pos h4]; split <;> omega
        · rw [if_neg h4, if_neg h4]
          have := h7 (by omega)
          split <;> omega
  have a0 : pot 0 (toS E T 0) ≤ 6 := hp 0 (by omega)
  have a1 : pot 1 (toS E T 1) ≤ 6 := hp 1 (by omega)
  have a2 : pot 2 (toS E T 2) ≤ 6 := hp 2 (by omega)
  have a3 : pot 3 (toS E T 3) ≤ 6 := hp 3 (by omega)
  have a4 : pot 4 (toS E T 4) ≤ 7 := hp 4 (by omega)
  show pot 0 (toS E T 0) + pot 1 (toS E T 1) + pot 2 (toS E T 2) + pot 3 (toS E T 3) + pot 4 (toS E T 4) ≤ 31
  omega
/-- trail and turns as they lie in the arrays -/
def trS (d : Nat) (cd tn : Nat → Nat) (tr tu : Nat → Int32) : Prop := ∀ j, j ≤ d → tr j = nI (cd j) ∧ tu j = nI (tn j)
theorem trS_pop {d : Nat} {cd tn : Nat → Nat} {tr tu : Nat → Int32} (h : trS (d + 1) cd tn tr tu) : trS d cd tn tr tu := fun j hj => h j (by omega)
theorem trS_turn {d : Nat} {cd tn : Nat → Nat} {tr tu : Nat → Int32} (h : trS d cd tn tr tu) : trS d cd (va_up tn d (tn d + 1)) tr (upd tu d (nI (tn d + 1))) := by
  intro j hj
  refine ⟨(h j hj).1, ?_⟩
  by_cases e : j = d
  · rw [e, pk_us, va_up_self]
  · rw [pk_un e, va_up_ne _ _ e]; exact (h j hj).2
theorem trS_push {d b : Nat} {cd tn : Nat → Nat} {tr tu : Nat → Int32} (h : trS d cd tn tr tu) : trS (d + 1) (va_up cd (d + 1) b) (va_up tn (d + 1) 0) (upd tr (d + 1) (nI b)) (upd tu (d + 1) 0) := by
  intro j hj
  by_cases e : j = d + 1
  · rw [e, pk_us, va_up_self, pk_us, va_up_self]; exact ⟨rfl, rfl⟩
  · rw [pk_un e, pk_un e, va_up_ne _ _ e, va_up_ne _ _ e]; exact h j (by omega)
theorem trS_0 {a : Nat} {tr tu : Nat → Int32} : trS 0 (fun _ => a) (fun _ => 0) (upd tr 0 (nI a)) (upd tu 0 0) := by
  intro j hj
  have : j = 0 := by omega
  rw [this, pk_us, pk_us]
  exact ⟨rfl, rfl⟩
abbrev gB (G : Gr) (kn tr tu : Nat → Int32) : Gr := rU_st (rU_tu (rU_tr (rU_kn G kn) tr) tu) false
def RR (G : Gr) (A : St) : Prop := rA_st G = true ∨ KI (envA A) (rA_kn G)
def CB (G : Gr) (A : St) (a : Nat) (ans : Int32) (u : Gr × St) : Prop := ans = b2i (canC (envA A) a) ∧ ∃ kn tr tu, KI (envA A) kn ∧ u = (gB G kn tr tu, A)
theorem k_not1 {x y : Bool} (h : x = true ∨ y = true) (h1 : ¬ nI (kvN x y) = 1) : y = true := by
  cases x <;> cases y <;> first | rfl | exact absurd rfl h1 | (rcases h with h | h <;> cases h)

/-! The search: what it asks, what it keeps. Own work. -/
def mvE (E : En) (S : Nat → Nat) : Bool := (List.range 30).any (fun t => okN E S (t / 6) (t % 6) && canE E (aft S (t / 6) (t % 6)))
theorem mvE_iff {E : En} {S : Nat → Nat} : mvE E S = true ↔ ∃ p, p < 5 ∧ ∃ q, q < 6 ∧ okN E S p q = true ∧ canE E (aft S p q) = true := by
  unfold mvE
  rw [any30 (fun p q => okN E S p q && canE E (aft S p q))]
  simp only [Bool.and_eq_true]
theorem canE_mv {E : En} (hE : e_ok E) {S : Nat → Nat} (h : phi S ≤ 40) : canE E S = (isZ S || mvE E S) := by
  rw [Bool.eq_iff_iff, canE_iff hE h, Bool.or_eq_true, mvE_iff]
theorem MI_add2 {E : En} {kn ps : Nat → Int64} {c : Nat} (h : MI E kn ps) (b : Bool) (hb : b = canE E (dig c)) :
    MI E (vp_updL kn (c / 64) (kn (c / 64) ||| bitL (c % 64))) (vp_updL ps (c / 64) (ps (c / 64) ||| (if b = true then bitL (c % 64) else 0))) := by
  intro c' hc'
  rw [kb_or]
  cases b with
  | true =>
    rw [if_pos rfl, kb_or, h c' hc']
    by_cases e : c' = c
    · subst e
      simp [← hb]
    · rw [show (c' == c) = false from beq_eq_false_iff_ne.mpr e]
      simp
  | false =>
    rw [if_neg (by decide), kb_or0, h c' hc']
    by_cases e : c' = c
    · subst e
      simp [← hb]
    · rw [show (c' == c) = false from beq_eq_false_iff_ne.mpr e]
      simp
theorem kb_set {K : Nat → Int64} {c : Nat} : kb (vp_updL K (c / 64) (K (c / 64) ||| bitL (c % 64))) c = true := by
  rw [kb_or]
  simp
theorem kb_0 {K : Nat → Int64} {c : Nat} : lg_cmp (K (c / 64) &&& bitL (c % 64)) 0 = 0 ↔ kb K c = false := by
  rw [lcmp_0, and_bit (by omega)]
  rfl
theorem kb_1 {K : Nat → Int64} {c : Nat} (h : ¬ lg_cmp (K (c / 64) &&& bitL (c % 64)) 0 = 0) : kb K c = true := by
  cases hk : kb K c with
  | true => rfl
  | false => exact absurd (kb_0.mpr hk) h
theorem ans_f {E : En} {kn ps : Nat → Int64} {S : Nat → Nat} (hS : fitS S) (hm : MI E kn ps) (hk : kb kn (enc S) = true) (h : lg_cmp (ps (enc S / 64) &&& bitL (enc S % 64)) 0 = 0) : b2i false = b2i (canE E S) := by
  have h1 := hm (enc S) (enc_lt hS)
  rw [kb_0.mp h, hk, dig_enc hS, Bool.true_and] at h1
  rw [← h1]
theorem ans_t {E : En} {kn ps : Nat → Int64} {S : Nat → Nat} (hS : fitS S) (hm : MI E kn ps) (hk : kb kn (enc S) = true) (h : ¬ lg_cmp (ps (enc S / 64) &&& bitL (enc S % 64)) 0 = 0) : b2i true = b2i (canE E S) := by
  have h1 := hm (enc S) (enc_lt hS)
  rw [kb_1 h, hk, dig_enc hS, Bool.true_and] at h1
  rw [← h1]
/-- all places have been tried for the goals above q -/
def triQ (E : En) (S : Nat → Nat) (q : Nat) : Prop := ∀ q', q < q' → q' < 6 → ∀ p, p < 5 → ¬ (okN E S p q' = true ∧ canE E (aft S p q') = true)
def triP (E : En) (S : Nat → Nat) (q f : Nat) : Prop := ∀ p, p < f → ¬ (okN E S p q = true ∧ canE E (aft S p q) = true)
theorem tri_next {E : En} {S : Nat → Nat} {q : Nat} (h : triQ E S (q + 1)) (h2 : triP E S (q + 1) 5) : triQ E S q := by
  intro q' h1 h3 p hp
  by_cases e : q' = q + 1
  · subst e; exact h2 p hp
  · exact h q' (by omega) h3 p hp
theorem tri_end {E : En} {S : Nat → Nat} (h : triQ E S 0) (h2 : triP E S 0 5) : mvE E S = false := by
  cases hm : mvE E S with
  | false => rfl
  | true =>
    obtain ⟨p, hp, q, hq, h3⟩ := mvE_iff.mp hm
    by_cases e : q = 0
    · subst e; exact absurd h3 (h2 p hp)
    · exact absurd h3 (h q (by omega) hq p hp)
theorem tri_p {E : En} {S : Nat → Nat} {q f : Nat} (h : triP E S q f) (h2 : ¬ (okN E S f q = true ∧ canE E (aft S f q) = true)) : triP E S q (f + 1) := by
  intro p hp
  by_cases e : p = f
  · subst e; exact h2
  · exact h p (by omega)
theorem no_ok1 {E : En} {S : Nat → Nat} {f q : Nat} {B : Prop} (h : nI (S f) = 0) (hS : fitS S) (hf : f < 5) : ¬ (okN E S f q = true ∧ B) := by
  have h0 : S f = 0 := (nI_eq (b := 0) (by have := fit16 hS hf; omega) (by omega)).mp h
  rintro ⟨h1, -⟩
  unfold okN at h1
  rw [h0] at h1
  simp at h1
theorem no_ok2 {E : En} {S : Nat → Nat} {f q : Nat} {B : Prop} (h : freeN S f q = false) : ¬ (okN E S f q = true ∧ B) := by
  rintro ⟨h1, -⟩
  unfold okN at h1
  rw [h] at h1
  simp at h1
theorem no_ok3 {E : En} {S : Nat → Nat} {f q : Nat} {B : Prop} (h : leadN (e_dn E) (mskN E (m_r (S f)) (m_s (S f))) f q = false) : ¬ (okN E S f q = true ∧ B) := by
  rintro ⟨h1, -⟩
  unfold okN at h1
  rw [h] at h1
  simp at h1
theorem ok_of {E : En} {S : Nat → Nat} {f q : Nat} (h1 : ¬ nI (S f) = 0) (h2 : freeN S f q = true) (h3 : leadN (e_dn E) (mskN E (m_r (S f)) (m_s (S f))) f q = true) : okN E S f q = true := by
  have h0 : S f ≠ 0 := fun e => h1 (by rw [e]; rfl)
  unfold okN
  rw [h2, h3]
  simp [h0]
theorem free_or {S : Nat → Nat} {p q : Nat} (h : freeN S p q = true) : q = 5 ∨ q = p ∨ S q = 0 := by
  unfold freeN at h
  simp at h
  rcases h with (h | h) | h
  · exact Or.inl h
  · exact Or.inr (Or.inl h)
  · exact Or.inr (Or.inr h)
theorem aft_nI {A : St} {S : Nat → Nat} {f q : Nat} (hR : rOk A) (hS : fitS S) (hf : f < 5) (hq : q < 6) (h2 : freeN S f q = true) (h3 : leadN (sA_dn A) (mskN (envA A) (m_r (S f)) (m_s (S f))) f q = true) : f_S_after (nI (enc S)) (nI (m_r (S f))) (nI (m_s (S f))) (nI f) (nI q) = nI (enc (aft S f q)) := by
  rw [aft_mov hf]
  exact after_nI hS (by omega) hq (by simp only [m_r]; omega) (by simp only [m_s]; omega) (fun h4 => mskN_pos (lead_q4 h3 h4) (env_ok hR)) (free_or h2)
abbrev rmM (n : Nat) : Room := { frames := 3 + 2 * n, cells := 0, slots := 0, locals := 300 + 55 * n }
abbrev rmS (n : Nat) : Room := { frames := 4 + 2 * n, cells := 0, slots := 0, locals := 328 + 55 * n }
def CS (l : Launch) (X : Xt) (n : Nat) : Prop := ∀ (G : Gc) (A : St) (Af : Nat → Prop) (S : Nat → Nat) (d : Nat), rOk A → MI (envA A) (gA_kn G) (gA_ps G) → fitS S → phi S ≤ n → phi S + d ≤ 34 →
  Met l y_E_search (Cond.code y_E_search b_E_search 8 (some .boolean) :: WA) (rmS n) (va_Pc [.ref (gA_ad G 2), .ref (gA_ad G 1), .int (nI (enc S)), .int (nI d)] (fun U => PW X Af G A U.heap ∧ KK X U))
    (va_Qi (fun ans u => ans = b2i (canE (envA A) S) ∧ ∃ kn ps, MI (envA A) kn ps ∧ (isZ S = true → kn = gA_kn G ∧ ps = gA_ps G) ∧ u = (gU_ps (gU_kn G kn) ps, A)) (atC X Af) Af) 0 0 Af
def CM (l : Launch) (X : Xt) (n : Nat) : Prop := ∀ (G : Gc) (A : St) (Af : Nat → Prop) (S : Nat → Nat) (d : Nat), rOk A → MI (envA A) (gA_kn G) (gA_ps G) → fitS S → phi S ≤ n → phi S + d ≤ 34 →
  Met l y_E_searchMoves (Cond.code y_E_searchMoves b_E_searchMoves 9 (some .boolean) :: WA) (rmM n) (va_Pc [.ref (gA_ad G 2), .ref (gA_ad G 1), .int (nI (enc S)), .int (nI d)] (fun U => PW X Af G A U.heap ∧ KK X U))
    (va_Qi (fun ans u => ans = b2i (mvE (envA A) S) ∧ ∃ kn ps, MI (envA A) kn ps ∧ u = (gU_ps (gU_kn G kn) ps, A)) (atC X Af) Af) 0 0 Af

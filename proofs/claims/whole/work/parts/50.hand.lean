/-! Which wafer goes next. Own work. -/
def rkA (A : St) (i : Nat) : Nat := if sA_pl A i = 5 then 2000 else if sA_pl A i < 4 ∧ lmt A i ≠ 0 then sA_lf A i + lmt A i - sA_sn A i else 1000
def gR (r : Nat) : Nat := if r = 2000 then 1001 else if r = 3000 then 1002 else r
def firstQ (A : St) (i : Nat) : Option Nat := (List.range 6).find? (fun q => decide (mayN A i q = 0))
def stepN (A : St) (i : Nat) (b : Int32 × Nat) : Int32 × Nat := if rkA A i < b.2 then oc (firstQ A i) b (fun q => (nI (8 * i + q), rkA A i)) else b
def nextK (A : St) : Nat → Int32 × Nat
  | 0 => (-1, 3000)
  | k + 1 => stepN A k (nextK A k)
def nextF (A : St) : Int32 := (nextK A (sA_n A)).1
def rnk (r : Nat) : Prop := r ≤ 1000 ∨ r = 2000 ∨ r = 3000
def snB (A : St) : Prop := ∀ i, i < sA_n A → sA_sn A i < 2 ^ 20
theorem lmt_le {A : St} {i : Nat} (hI : Inv A) (hi : i < sA_n A) (h4 : sA_pl A i < 4) : lmt A i ≤ 100 := by
  obtain ⟨w1, w2, w3, w4, w5, -⟩ := hI.2.2.1 i hi
  have := w5 h4
  exact (hI.2.1.2.1 _ _ (show sA_sg A i - 1 < sA_len A (sA_rt A i) by omega)).2.2.2.2
theorem rk_rnk {A : St} {i : Nat} (hI : Inv A) (hi : i < sA_n A) : rkA A i ≤ 1000 ∨ rkA A i = 2000 := by
  unfold rkA
  split
  · exact Or.inr rfl
  · split
    · next h =>
      have := lmt_le hI hi h.1
      have := (hI.2.2.1 i hi).2.2.2.1
      exact Or.inl (by omega)
    · exact Or.inl (by omega)
theorem gR_lt {a b : Nat} (ha : a ≤ 1000 ∨ a = 2000) (hb : rnk b) : gR a < gR b ↔ a < b := by
  unfold rnk at hb
  unfold gR
  split <;> split <;> (try split) <;> (try split) <;> omega
theorem gR_le (r : Nat) (hr : rnk r) : gR r ≤ 1002 := by
  unfold rnk at hr
  unfold gR
  split
  · omega
  · split <;> omega
theorem limitAt_nI {A : St} {r g : Nat} (hR : rOk A) (hg : g < sA_len A r) : f_U_limitAt A r (nI g) = nI (sA_lm A r g) := by
  have := hR.1 r
  unfold f_U_limitAt
  rw [has_nI hR (by omega), nI_clamp (by omega), if_pos (by simp [hg])]
theorem limitOf_nI {A : St} {i : Nat} (hI : Inv A) (hi : i < sA_n A) (h4 : sA_pl A i < 4) : f_T_limitOf A i = nI (lmt A i) := by
  obtain ⟨w1, w2, w3, w4, w5, -⟩ := hI.2.2.1 i hi
  have hg := w5 h4
  unfold f_T_limitOf
  rw [oc_some (routeOf_nI _ w1), nI_s1 hg, limitAt_nI hI.2.1 (by omega)]
  rfl
/-- the time to the limit, as the calls tell it -/
def stayN (A : St) (i : Nat) : Int32 := if sA_pl A i < 4 ∧ lmt A i ≠ 0 then nI (sA_lf A i + lmt A i - sA_sn A i) else -1
theorem mx_nI {a b : Nat} (ha : a < 2 ^ 30) (hb : b < 2 ^ 30) : (if 0 < nI a - nI b then nI a - nI b else 0) = nI (a - b) := by
  by_cases h : b ≤ a
  · rw [pk_sub h]
    by_cases h0 : a - b = 0
    · rw [h0, if_neg (by decide)]
      rfl
    · rw [if_pos (show (0 : Int32) < nI (a - b) from nI_lt (a := 0) (by omega) (by omega))]
  · have h1 := pk_sneg (a := a) (b := b) hb (by omega)
    rw [show a - b = 0 by omega, if_neg]
    · rfl
    · intro h2
      rw [Int32.lt_iff_toInt_lt] at h1 h2
      omega
theorem stay_nI {G : Gc} {A : St} {x : Int32} (hI : Inv A) (hC : RC G A) (hB : snB A) : f_T_stay G A x = oc (widx A x) (-1) (fun i => stayN A i) := by
  unfold f_T_stay
  rw [waferOf_eq hI.1]
  cases hw : widx A x with
  | none => rw [oc_none rfl, oc_none rfl]
  | some i =>
    rw [oc_some rfl, oc_some rfl]
    obtain ⟨hi, -⟩ := widx_some hw hI.1
    obtain ⟨w1, w2, w3, w4, w5, -⟩ := hI.2.2.1 i hi
    unfold stayN
    by_cases h4 : sA_pl A i < 4
    · have hl := lmt_le hI hi h4
      have hb := hB i hi
      rw [if_pos (show nI (sA_pl A i) < (4 : Int32) from nI_lt (b := 4) h4 (by omega)), limitOf_nI hI hi h4]
      by_cases h0 : lmt A i = 0
      · rw [if_pos (show nI (lmt A i) = (0 : Int32) by rw [h0]; rfl), if_neg (by omega)]
      · rw [if_neg (show ¬ nI (lmt A i) = (0 : Int32) from nI_ne (b := 0) h0 (by omega) (by omega)), hC.2.2.1 i hi h4, nI_add, mx_nI (a := sA_lf A i + lmt A i) (b := sA_sn A i) (by omega) (by omega), if_pos (show sA_pl A i < 4 ∧ lmt A i ≠ 0 from ⟨h4, h0⟩)]
    · rw [if_neg (show ¬ nI (sA_pl A i) < (4 : Int32) from nI_nlt (b := 4) (by omega) (by omega)), if_neg (by omega)]
theorem place_nI {A : St} {i : Nat} (hI : Inv A) (hi : i < sA_n A) : f_T_place A (nI i) = nI (sA_pl A i) := by
  unfold f_T_place
  rw [oc_some (waferOf_nI hI.1 hi)]
theorem rank_nI {G : Gc} {A : St} {i : Nat} (hI : Inv A) (hC : RC G A) (hB : snB A) (hi : i < sA_n A) : f_T_rankOf G A (nI i) = nI (gR (rkA A i)) := by
  have hp := (hI.2.2.1 i hi).2.2.1
  have hf := (hI.2.2.1 i hi).2.2.2.1
  unfold f_T_rankOf
  rw [place_nI hI hi, stay_nI hI hC hB, oc_some (widx_nI hi hI.1)]
  unfold rkA stayN
  by_cases h5 : sA_pl A i = 5
  · rw [if_pos (show nI (sA_pl A i) = (5 : Int32) by rw [h5]; rfl), if_pos h5]
    rfl
  · rw [if_neg (show ¬ nI (sA_pl A i) = (5 : Int32) from nI_ne (b := 5) h5 (by omega) (by omega)), if_neg h5]
    by_cases hc : sA_pl A i < 4 ∧ lmt A i ≠ 0
    · have := lmt_le hI hi hc.1
      rw [if_pos hc, if_pos hc, if_neg]
      · unfold gR
        rw [if_neg (by omega), if_neg (by omega)]
      · intro z
        have h2 : (nI (sA_lf A i + lmt A i - sA_sn A i)).toInt = -1 := by rw [z]; rfl
        rw [nI_toInt (by omega)] at h2
        omega
    · rw [if_neg hc, if_neg hc, if_pos rfl]
      rfl
theorem first_none {A : St} {i : Nat} (h : ∀ q, q < 6 → mayN A i q ≠ 0) : firstQ A i = none := by
  unfold firstQ
  rw [List.find?_eq_none]
  intro q hq
  simpa using h q (List.mem_range.mp hq)
theorem first_some {A : St} {i q : Nat} (hq : q < 6) (h : ∀ p, p < q → mayN A i p ≠ 0) (h0 : mayN A i q = 0) : firstQ A i = some q := by
  unfold firstQ
  rcases (show q = 0 ∨ q = 1 ∨ q = 2 ∨ q = 3 ∨ q = 4 ∨ q = 5 by omega) with rfl | rfl | rfl | rfl | rfl | rfl
  · simp [List.range, List.range.loop, List.find?, h0]
  · have a0 := h 0 (by omega)
    simp [List.range, List.range.loop, List.find?, h0, a0]
  · have a0 := h 0 (by omega)
    have a1 := h 1 (by omega)
    simp [List.range, List.range.loop, List.find?, h0, a0, a1]
  · have a0 := h 0 (by omega)
    have a1 := h 1 (by omega)
    have a2 := h 2 (by omega)
    simp [List.range, List.range.loop, List.find?, h0, a0, a1, a2]
  · have a0 := h 0 (by omega)
    have a1 := h 1 (by omega)
    have a2 := h 2 (by omega)
    have a3 := h 3 (by omega)
    simp [List.range, List.range.loop, List.find?, h0, a0, a1, a2, a3]
  · have a0 := h 0 (by omega)
    have a1 := h 1 (by omega)
    have a2 := h 2 (by omega)
    have a3 := h 3 (by omega)
    have a4 := h 4 (by omega)
    simp [List.range, List.range.loop, List.find?, h0, a0, a1, a2, a3, a4]
theorem step_none {A : St} {i : Nat} {b : Int32 × Nat} (h : ∀ q, q < 6 → mayN A i q ≠ 0) : stepN A i b = b := by
  unfold stepN
  rw [oc_none (first_none h)]
  split <;> rfl
theorem step_ge {A : St} {i : Nat} {b : Int32 × Nat} (h : ¬ rkA A i < b.2) : stepN A i b = b := by
  unfold stepN
  rw [if_neg h]
theorem step_some {A : St} {i q : Nat} {b : Int32 × Nat} (hr : rkA A i < b.2) (hq : q < 6) (h : ∀ p, p < q → mayN A i p ≠ 0) (h0 : mayN A i q = 0) : stepN A i b = (nI (8 * i + q), rkA A i) := by
  unfold stepN
  rw [if_pos hr, oc_some (first_some hq h h0)]
theorem first_may {A : St} {i q : Nat} (h : firstQ A i = some q) : q < 6 ∧ mayN A i q = 0 := by
  unfold firstQ at h
  have h1 := List.find?_some h
  have h2 := List.mem_of_find?_eq_some h
  exact ⟨List.mem_range.mp h2, by simpa using h1⟩
theorem next_rnk {A : St} (hI : Inv A) : ∀ k, k ≤ sA_n A → rnk (nextK A k).2 ∧ ((nextK A k).1 = -1 ∨ ∃ i q, i < sA_n A ∧ q < 6 ∧ (nextK A k).1 = nI (8 * i + q) ∧ mayN A i q = 0)
  | 0, _ => ⟨Or.inr (Or.inr rfl), Or.inl rfl⟩
  | k + 1, hk => by
    obtain ⟨h1, h2⟩ := next_rnk hI k (by omega)
    unfold nextK stepN
    split
    · cases hf : firstQ A k with
      | none => rw [oc_none rfl]; exact ⟨h1, h2⟩
      | some q =>
        rw [oc_some rfl]
        obtain ⟨a1, a2⟩ := first_may hf
        refine ⟨?_, Or.inr ⟨k, q, by omega, a1, rfl, a2⟩⟩
        have := rk_rnk hI (show k < sA_n A by omega)
        unfold rnk
        show rkA A k ≤ 1000 ∨ rkA A k = 2000 ∨ rkA A k = 3000
        omega
    · exact ⟨h1, h2⟩
theorem next_spec {A : St} (hI : Inv A) : nextF A = -1 ∨ ∃ i q, i < sA_n A ∧ q < 6 ∧ nextF A = nI (8 * i + q) ∧ mayN A i q = 0 := (next_rnk hI _ (Nat.le_refl _)).2
theorem mayF_nI {A : St} {i q : Nat} (hI : Inv A) (hi : i < sA_n A) (hq : q < 6) : mayF A (nI i) (nI q) = mayN A i q := by
  unfold mayF
  rw [oc_some (widx_nI hi hI.1), oc_some (pidx_nI hq)]
def goA (A : St) : St := if nextF A = -1 then A else moveA A ((nextF A).toNatClampNeg / 8) ((nextF A).toNatClampNeg % 8)
theorem goA_at {A : St} {i q : Nat} (hi : i < 100) (hq : q < 6) (h : nextF A = nI (8 * i + q)) : goA A = moveA A i q := by
  have hne : ¬ nextF A = -1 := by
    rw [h]
    intro z
    have h2 : (nI (8 * i + q)).toInt = -1 := by rw [z]; rfl
    rw [nI_toInt (by omega)] at h2
    omega
  unfold goA
  rw [if_neg hne, h, nI_clamp (by omega), show (8 * i + q) / 8 = i by omega, show (8 * i + q) % 8 = q by omega]

/-! What the class keeps of its searches: a bit a situation. Own work. -/
def kb (K : Nat → Int64) (c : Nat) : Bool := (K (c / 64)).toBitVec.getLsbD (c % 64)
def bitL (j : Nat) : Int64 := (1 : Int64) <<< ((nI j).toInt64 &&& 63)
theorem bitL_tb : ∀ j, j < 64 → (bitL j).toBitVec = BitVec.twoPow 64 j := by decide +kernel
theorem i64_ext {x y : Int64} (h : x.toBitVec = y.toBitVec) : x = y := Int64.toBitVec_inj.mp h
theorem and_bit {w : Int64} {j : Nat} (hj : j < 64) : (w &&& bitL j) = 0 ↔ w.toBitVec.getLsbD j = false := by
  rw [← Int64.toBitVec_inj, Int64.toBitVec_and, bitL_tb j hj, BitVec.and_twoPow]
  cases h : w.toBitVec.getLsbD j
  · simp
  · simp only [if_true]
    constructor
    · intro h2
      exfalso
      have h3 := congrArg (fun b : BitVec 64 => b.getLsbD j) h2
      simp [BitVec.getLsbD_twoPow, hj] at h3
    · intro h2
      exact absurd h2 (by decide)
theorem kb_or {K : Nat → Int64} {c c' : Nat} : kb (vp_updL K (c / 64) (K (c / 64) ||| bitL (c % 64))) c' = (kb K c' || c' == c) := by
  unfold kb vp_updL
  by_cases h : c' / 64 = c / 64
  · rw [if_pos h, Int64.toBitVec_or, bitL_tb _ (by omega), BitVec.getLsbD_or, BitVec.getLsbD_twoPow, h]
    congr 1
    by_cases h2 : c' = c
    · subst h2
      have : c' % 64 < 64 := by omega
      simp [this]
    · have h3 : ¬ c % 64 = c' % 64 := by omega
      simp [h3, h2]
  · have h2 : c' ≠ c := fun e => h (by rw [e])
    rw [if_neg h]
    simp [h2]
theorem kb_or0 {K : Nat → Int64} {r : Nat} : vp_updL K r (K r ||| 0) = K := by
  funext j
  unfold vp_updL
  split
  · next h =>
    subst h
    apply i64_ext
    simp
  · rfl
/-- what is kept is true -/
def MI (E : En) (kn ps : Nat → Int64) : Prop := ∀ c, c < 65536 → kb ps c = (kb kn c && canE E (dig c))
theorem kb_zero {K : Nat → Int64} {c : Nat} (h : ∀ k, k < 1024 → K k = 0) (hc : c < 65536) : kb K c = false := by
  unfold kb
  rw [h (c / 64) (by omega)]
  simp
theorem MI_zero {E : En} {kn ps : Nat → Int64} (h1 : ∀ k, k < 1024 → kn k = 0) (h2 : ∀ k, k < 1024 → ps k = 0) : MI E kn ps := by
  intro c hc
  rw [kb_zero h1 hc, kb_zero h2 hc]
  rfl
/-- a new entry -/
theorem MI_add {E : En} {kn ps : Nat → Int64} {c : Nat} (h : MI E kn ps) (hc : c < 65536) (hk : kb kn c = false) (b : Bool) (hb : b = canE E (dig c)) :
    MI E (vp_updL kn (c / 64) (kn (c / 64) ||| bitL (c % 64))) (vp_updL ps (c / 64) (ps (c / 64) ||| (if b = true then bitL (c % 64) else 0))) := by
  intro c' hc'
  rw [kb_or]
  cases b with
  | true =>
    rw [if_pos rfl, kb_or, h c' hc']
    by_cases e : c' = c
    · subst e
      simp [← hb]
    · rw [show (c' == c) = false from beq_eq_false_iff_ne.mpr e]
      simp
  | false =>
    rw [if_neg (by decide), kb_or0, h c' hc']
    by_cases e : c' = c
    · subst e
      simp [← hb, hk]
    · rw [show (c' == c) = false from beq_eq_false_iff_ne.mpr e]
      simp
theorem row_ix {c : Nat} (hc : c < 65536) : (nI c >>> ((6 : Int32) &&& 31)) &&& 1023 = nI (c / 64) := by
  rw [pk_shrN (n := c) (by omega) _ 6 (by decide)]
  rw [pk_andN (n := c / 2 ^ 6) (by omega) (m := 1023) 10 (by decide)]
  congr 1
  omega
theorem bit_ix {c : Nat} (hc : c < 65536) : nI c &&& 63 = nI (c % 64) := pk_andN (n := c) (by omega) (m := 63) 6 (by decide)
theorem lcmp_0 {x : Int64} : lg_cmp x 0 = 0 ↔ x = 0 := by
  unfold lg_cmp
  constructor
  · intro h
    split at h
    · exact absurd h (by decide)
    · split at h
      · assumption
      · exact absurd h (by decide)
  · intro h
    subst h
    decide

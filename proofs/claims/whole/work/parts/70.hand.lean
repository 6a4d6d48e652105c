/-! The reference keeps two bits a situation; a move of a situation. Own work; the first rows are pasted from kit/laws/BITS.to-paste. -/
def bt (x : Int32) (i : Nat) : Bool := x.toBitVec.getLsbD i
theorem b_ext {x y : Int32} (h : ∀ i, i < 32 → bt x i = bt y i) : x = y := Int32.toBitVec_inj.mp (BitVec.eq_of_getLsbD_eq (fun i hi => h i hi))
theorem b_or (x y : Int32) (i : Nat) : bt (x ||| y) i = (bt x i || bt y i) := by unfold bt; rw [Int32.toBitVec_or, BitVec.getLsbD_or]
theorem b_and (x y : Int32) (i : Nat) : bt (x &&& y) i = (bt x i && bt y i) := by unfold bt; rw [Int32.toBitVec_and, BitVec.getLsbD_and]
theorem b_big {x : Int32} {i : Nat} (h : 32 ≤ i) : bt x i = false := BitVec.getLsbD_of_ge _ _ h
theorem s_l : ∀ n, n < 32 → ((nI n &&& 31).toBitVec.smod 32).toNat = n := by decide +kernel
theorem b_shl (n : Nat) (hn : n < 32) (x : Int32) {i : Nat} (hi : i < 32) : bt (x <<< (nI n &&& 31)) i = (decide (n ≤ i) && bt x (i - n)) := by
  unfold bt
  rw [Int32.toBitVec_shiftLeft]
  show (x.toBitVec <<< ((nI n &&& 31).toBitVec.smod 32).toNat).getLsbD i = _
  rw [s_l n hn, BitVec.getLsbD_shiftLeft]
  rcases Nat.lt_or_ge i n with h | h
  · simp [h, Nat.not_le.mpr h]
  · simp [hi, h, Nat.not_lt.mpr h]
theorem b_sshr (n : Nat) (hn : n < 32) (x : Int32) {i : Nat} (hi : i < 32) : bt (x >>> (nI n &&& 31)) i = if n + i < 32 then bt x (n + i) else bt x 31 := by
  unfold bt
  rw [Int32.toBitVec_shiftRight]
  show (x.toBitVec.sshiftRight ((nI n &&& 31).toBitVec.smod 32).toNat).getLsbD i = _
  rw [s_l n hn, BitVec.getLsbD_sshiftRight, BitVec.msb_eq_getLsbD_last]
  simp [hi]
def k1 (K : Nat → Int32) (a : Nat) : Bool := bt (K (a / 16)) (2 * (a % 16))
def k2 (K : Nat → Int32) (a : Nat) : Bool := bt (K (a / 16)) (2 * (a % 16) + 1)
def kvN (p q : Bool) : Nat := (if p = true then 1 else 0) + (if q = true then 2 else 0)
def f_M_knownOf (G : Gr) (a : Nat) : Int32 := nI (kvN (k1 (rA_kn G) a) (k2 (rA_kn G) a))
theorem b_3 : ∀ i, i < 32 → bt 3 i = decide (i < 2) := by decide +kernel
theorem b_kv : ∀ p q : Bool, ∀ i, i < 32 → bt (nI (kvN p q)) i = if i = 0 then p else if i = 1 then q else false := by decide +kernel
theorem kv_nI (x : Int32) {k : Nat} (hk : k < 16) : (x >>> ((2 * nI k) &&& 31)) &&& 3 = nI (kvN (bt x (2 * k)) (bt x (2 * k + 1))) := by
  rw [show (2 : Int32) * nI k = nI (2 * k) from pk_mul 2 k]
  apply b_ext
  intro i hi
  rw [b_and, b_3 i hi, b_sshr _ (by omega) _ hi, b_kv _ _ i hi]
  by_cases h0 : i = 0
  · subst h0
    rw [if_pos (by omega), if_pos rfl]
    simp
  · by_cases h1 : i = 1
    · subst h1
      rw [if_pos (by omega), if_neg (by omega), if_pos rfl]
      simp
    · rw [if_neg h0, if_neg h1]
      simp
      omega
def knU (K : Nat → Int32) (a w : Nat) : Nat → Int32 := upd K (a / 16) (K (a / 16) ||| (nI w <<< ((2 * nI (a % 16)) &&& 31)))
theorem b_1 : ∀ i, i < 32 → bt (nI 1) i = decide (i = 0) := by decide +kernel
theorem b_2 : ∀ i, i < 32 → bt (nI 2) i = decide (i = 1) := by decide +kernel
theorem know1 {K : Nat → Int32} {a b : Nat} : k1 (knU K a 1) b = (k1 K b || b == a) ∧ k2 (knU K a 1) b = k2 K b := by
  unfold k1 k2 knU
  rw [show (2 : Int32) * nI (a % 16) = nI (2 * (a % 16)) from pk_mul 2 _]
  by_cases h : b / 16 = a / 16
  · rw [h, pk_us, b_or, b_or, b_shl _ (by omega) _ (by omega), b_shl _ (by omega) _ (by omega), b_1 _ (by omega), b_1 _ (by omega)]
    constructor
    · congr 1
      by_cases e : b = a
      · subst e; simp
      · have : ¬ b % 16 = a % 16 := by omega
        rw [show (b == a) = false from beq_eq_false_iff_ne.mpr e]
        simp
        omega
    · have : ¬ (2 * (a % 16) ≤ 2 * (b % 16) + 1 ∧ 2 * (b % 16) + 1 - 2 * (a % 16) = 0) := by omega
      have e2 : (decide (2 * (a % 16) ≤ 2 * (b % 16) + 1) && decide (2 * (b % 16) + 1 - 2 * (a % 16) = 0)) = false := by
        rw [← Bool.decide_and]
        exact decide_eq_false this
      rw [e2, Bool.or_false]
  · rw [pk_un h]
    have e : ¬ b = a := fun z => h (by rw [z])
    rw [show (b == a) = false from beq_eq_false_iff_ne.mpr e]
    simp
theorem know2 {K : Nat → Int32} {a b : Nat} : k1 (knU K a 2) b = k1 K b ∧ k2 (knU K a 2) b = (k2 K b || b == a) := by
  unfold k1 k2 knU
  rw [show (2 : Int32) * nI (a % 16) = nI (2 * (a % 16)) from pk_mul 2 _]
  by_cases h : b / 16 = a / 16
  · rw [h, pk_us, b_or, b_or, b_shl _ (by omega) _ (by omega), b_shl _ (by omega) _ (by omega), b_2 _ (by omega), b_2 _ (by omega)]
    constructor
    · have : ¬ (2 * (a % 16) ≤ 2 * (b % 16) ∧ 2 * (b % 16) - 2 * (a % 16) = 1) := by omega
      have e2 : (decide (2 * (a % 16) ≤ 2 * (b % 16)) && decide (2 * (b % 16) - 2 * (a % 16) = 1)) = false := by
        rw [← Bool.decide_and]
        exact decide_eq_false this
      rw [e2, Bool.or_false]
    · congr 1
      by_cases e : b = a
      · subst e; simp
      · have : ¬ b % 16 = a % 16 := by omega
        rw [show (b == a) = false from beq_eq_false_iff_ne.mpr e]
        simp
        omega
  · rw [pk_un h]
    have e : ¬ b = a := fun z => h (by rw [z])
    rw [show (b == a) = false from beq_eq_false_iff_ne.mpr e]
    simp
theorem div16 {a : Nat} (h : a < 2 ^ 31) : nI a / 16 = nI (a / 16) := pk_div (d := 16) h (by decide) (by decide)
theorem rem16 {a : Nat} (h : a < 2 ^ 31) : nI a - nI a / 16 * 16 = nI (a % 16) := pk_rem (d := 16) h (by decide) (by decide)
theorem div4 {a : Nat} (h : a < 2 ^ 31) : nI a / 4 = nI (a / 4) := pk_div (d := 4) h (by decide) (by decide)
theorem rem4 {a : Nat} (h : a < 2 ^ 31) : nI a - nI a / 4 * 4 = nI (a % 4) := pk_rem (d := 4) h (by decide) (by decide)
theorem div6 {a : Nat} (h : a < 2 ^ 31) : nI a / 6 = nI (a / 6) := pk_div (d := 6) h (by decide) (by decide)
theorem rem6 {a : Nat} (h : a < 2 ^ 31) : nI a - nI a / 6 * 6 = nI (a % 6) := pk_rem (d := 6) h (by decide) (by decide)
theorem dgd {a u : Nat} (hu : u < 5) : f_M_digit a u = nI (dig9 a u) := by
  unfold f_M_digit dig9
  rw [if_pos hu]
theorem dig9_lt {a u : Nat} : dig9 a u < 9 := by
  unfold dig9
  split <;> omega
theorem dig9_5 {a u : Nat} (h : 5 ≤ u) : dig9 a u = 0 := by
  unfold dig9
  rw [if_neg (by omega)]
theorem enc9_dig {a : Nat} (h : a < 59049) : enc9 (dig9 a) = a := by
  rw [enc9_eq]
  simp [dig9]
  omega
def aftI (E : En) (a u v : Nat) : Int32 := if mv9 E (dig9 a) u v = true then nI (enc9 (aft9 (dig9 a) u v)) else -1
theorem lift9 {a u : Nat} (ha : a < 59049) (hu : u < 5) : nI a - nI (dig9 a u) * f_M_power u = nI (enc9 (va_up (dig9 a) u 0)) := by
  have e := enc9_up (T := dig9 a) (v := 0) hu
  rw [enc9_dig ha] at e
  unfold f_M_power
  rw [pk_mul, pk_sub (by omega)]
  congr 1
  omega
theorem put9 {T : Nat → Nat} {v d : Nat} (hv : v < 5) (h0 : T v = 0) : nI (enc9 T) + f_M_power v * nI d = nI (enc9 (va_up T v d)) := by
  have e := enc9_up (T := T) (v := d) hv
  rw [h0] at e
  unfold f_M_power
  rw [pk_mul, nI_add]
  congr 1
  rw [Nat.mul_comm (9 ^ v)]
  omega
theorem af_no1 {E : En} {a u v : Nat} (h : nI (dig9 a u) = 0) : -1 = aftI E a u v := by
  have h0 : dig9 a u = 0 := (nI_eq (b := 0) (by have := dig9_lt (a := a) (u := u); omega) (by omega)).mp h
  unfold aftI mv9
  rw [h0]
  simp
theorem af_no2 {E : En} {a u v : Nat} (h1 : ¬ v = 5) (h2 : ¬ v = u) (h3 : ¬ dig9 a v = 0) : -1 = aftI E a u v := by
  unfold aftI mv9 free9
  simp [h1, h2, h3]
theorem af_no3 {E : En} {a u v : Nat} (h : way9 E ((dig9 a u - 1) / 4) ((dig9 a u - 1) % 4) u v = false) : -1 = aftI E a u v := by
  unfold aftI mv9
  rw [h]
  simp
theorem mv_of {E : En} {T : Nat → Nat} {u v : Nat} (h0 : ¬ nI (T u) = 0) (hf : v = 5 ∨ v = u ∨ T v = 0) (hw : way9 E ((T u - 1) / 4) ((T u - 1) % 4) u v = true) : mv9 E T u v = true := by
  have h1 : T u ≠ 0 := fun z => h0 (by rw [z]; rfl)
  unfold mv9 free9
  rw [hw]
  rcases hf with h | h | h <;> simp [h1, h]
theorem up0_v {T : Nat → Nat} {u v : Nat} (hf : v = 5 ∨ v = u ∨ T v = 0) (h5 : ¬ v = 5) : va_up T u 0 v = 0 := by
  unfold va_up
  split
  · rfl
  · rcases hf with h | h | h
    · exact absurd h h5
    · omega
    · exact h
theorem af_5 {E : En} {a u v : Nat} (hm : mv9 E (dig9 a) u v = true) (h5 : v = 5) : nI (enc9 (va_up (dig9 a) u 0)) = aftI E a u v := by
  unfold aftI aft9
  rw [if_pos hm, if_pos h5]
theorem af_4 {E : En} {a u v : Nat} (hm : mv9 E (dig9 a) u v = true) (hf : v = 5 ∨ v = u ∨ dig9 a v = 0) (hv : v < 6) (h5 : ¬ v = 5) (h4 : ¬ v < 4) : nI (enc9 (va_up (dig9 a) u 0)) + f_M_power v * nI (dig9 a u) = aftI E a u v := by
  unfold aftI aft9
  rw [if_pos hm, if_neg h5, if_neg h4, put9 (by omega) (up0_v hf h5)]
theorem af_3 {E : En} {a u v : Nat} (hm : mv9 E (dig9 a) u v = true) (hf : v = 5 ∨ v = u ∨ dig9 a v = 0) (h4 : v < 4) : nI (enc9 (va_up (dig9 a) u 0)) + f_M_power v * (nI (dig9 a u) + 1) = aftI E a u v := by
  unfold aftI aft9
  rw [if_pos hm, if_neg (by omega), if_pos h4, nI_1, put9 (by omega) (up0_v hf (by omega))]
def cF (A : St) (x : Int32) (i : Nat) : Bool := (decide (x = 1) && fin A i) || (decide (x = 2) && sA_la A i)
def f_M_after (A : St) (a u v : Nat) : Int32 := aftI (envA A) a u v
theorem cnt_s (f : Nat → Bool) (k : Nat) : cnt f (k + 1) = cnt f k + (if f k = true then 1 else 0) := rfl

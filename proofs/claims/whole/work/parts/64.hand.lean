/-! Numbers of the reference. Own work. -/
theorem idx3 (r g : Nat) : (3 : Int32) * nI r + nI g = nI (3 * r + g) := by rw [show (3 : Int32) * nI r = nI (3 * r) from pk_mul 3 r, nI_add]
theorem idx3m {r g : Nat} (h : 1 ≤ g) : (3 : Int32) * nI r + nI g - 1 = nI (3 * r + (g - 1)) := by rw [idx3, nI_s1 (by omega)]; congr 1; omega
def f_M_digitOf (A : St) (i : Nat) : Int32 := nI (dgt A i)
theorem dgt_nI (A : St) (i : Nat) : 1 + 4 * nI (sA_rt A i) + nI (sA_sg A i) = f_M_digitOf A i := by
  rw [show (4 : Int32) * nI (sA_rt A i) = nI (4 * sA_rt A i) from pk_mul 4 _, show (1 : Int32) + nI (4 * sA_rt A i) = nI (1 + 4 * sA_rt A i) from nI_add 1 _, nI_add]
  rfl
def f_M_power (k : Nat) : Int32 := nI (9 ^ k)
def f_M_digit (a q : Nat) : Int32 := nI (a / 9 ^ q % 9)
theorem pow9 {q : Nat} (hq : q < 5) : 9 ^ q < 2 ^ 31 := by
  rcases (show q = 0 ∨ q = 1 ∨ q = 2 ∨ q = 3 ∨ q = 4 by omega) with rfl | rfl | rfl | rfl | rfl <;> decide
theorem rem9 {a : Nat} (h : a < 2 ^ 31) : nI a - nI a / 9 * 9 = nI (a % 9) := pk_rem (d := 9) h (by decide) (by decide)
theorem b2i_vn (b : Bool) : vp_nar .boolean (b2i b) = b2i b := by cases b <;> rfl

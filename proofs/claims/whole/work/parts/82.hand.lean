/-! A new reference. Own work. -/
def R00 (u : Nat → Nat) : Gr := (u, fun _ => 0, fun _ => 0, fun _ => 0, false)
theorem dn00 : (fun _ => 0 : Nat → Int32) = fun x => b2i ((sA_dn A00).testBit x) := by
  funext x
  rw [show sA_dn A00 = 0 from rfl, Nat.zero_testBit]
  rfl
def rwz (X : Xt) (u : Nat → Nat) (f : Nat → Int32) : va_W := (rw_ X (R00 u) A00).set 14 (u 14, .inl (x_Z X, aI 4 f))
theorem rwz_eq {X : Xt} {u : Nat → Nat} : rwz X u (fun _ => 0) = rw_ X (R00 u) A00 := by
  rw [dn00]
  rfl
theorem RR_00 (u : Nat → Nat) : RR (R00 u) A00 := Or.inr (KI_0 (fun _ _ => rfl))

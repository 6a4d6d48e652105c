/-! Loops of the reference: who is in a place, the situation, emptiness. Own work. -/
def occ5 (A : St) (q i : Nat) : Int32 := if q < 5 then occ A q i else -1
theorem occ5_0 {A : St} {q : Nat} : occ5 A q 0 = -1 := by unfold occ5; split <;> rfl
theorem occ5_5 {A : St} {q i : Nat} (h : ¬ q < 5) : occ5 A q (i + 1) = occ5 A q i := by unfold occ5; rw [if_neg h, if_neg h]
theorem occ5_y {A : St} {q i : Nat} (h : q < 5) (h2 : sA_pl A i = q) : occ5 A q (i + 1) = nI i := by
  unfold occ5
  rw [if_pos h, show occ A q (i + 1) = if sA_pl A i = q then nI i else occ A q i from rfl, if_pos h2]
theorem occ5_n {A : St} {q i : Nat} (h2 : ¬ sA_pl A i = q) : occ5 A q (i + 1) = occ5 A q i := by
  unfold occ5
  rw [show occ A q (i + 1) = if sA_pl A i = q then nI i else occ A q i from rfl, if_neg h2]
def f_M_situation (A : St) : Int32 := nI (enc9 (sit9 A))
theorem enc9_0 {A : St} : enc9 (sitK A 0) = 0 := by
  rw [enc9_eq]
  rfl
theorem sitK_no {A : St} {i : Nat} (h : ¬ sA_pl A i < 5) : sitK A (i + 1) = sitK A i := by
  funext x
  rw [show sitK A (i + 1) x = if sA_pl A i = x ∧ x < 5 then dgt A i else sitK A i x from rfl, if_neg (by omega)]
theorem sitK_go {A : St} {i : Nat} (hI : Inv A) (hi : i < sA_n A) (h : sA_pl A i < 5) : nI (enc9 (sitK A i)) + f_M_power (sA_pl A i) * f_M_digitOf A i = nI (enc9 (sitK A (i + 1))) := by
  have e : sitK A (i + 1) = va_up (sitK A i) (sA_pl A i) (dgt A i) := by
    funext x
    rw [show sitK A (i + 1) x = if sA_pl A i = x ∧ x < 5 then dgt A i else sitK A i x from rfl]
    by_cases hx : x = sA_pl A i
    · subst hx
      rw [if_pos ⟨rfl, h⟩, va_up_self]
    · rw [if_neg (fun z => hx z.1.symm), va_up_ne _ _ hx]
  have h0 : sitK A i (sA_pl A i) = 0 := sitK_none (fun j hj hp => by
    have := hI.2.2.2.1 j i (by omega) hi hp (by omega)
    omega)
  have e2 := enc9_up (T := sitK A i) (v := dgt A i) h
  rw [h0] at e2
  rw [e]
  unfold f_M_power f_M_digitOf
  rw [pk_mul, nI_add]
  congr 1
  rw [Nat.mul_comm (9 ^ sA_pl A i)]
  omega
def emK (E : En) (T : Nat → Nat) : Nat → Bool
  | 0 => true
  | k + 1 => emK E T k && (T k == 0 || dnP E k)
def f_M_isEmpty (A : St) (a : Nat) : Bool := emK (envA A) (dig9 a) 5
theorem em_9 {E : En} {T : Nat → Nat} : emK E T 5 = isE9 E T := by
  simp only [emK, isE9, Bool.true_and]
theorem dig_0 {a i : Nat} (hi : i < 5) (h : f_M_digit a i = 0) : dig9 a i = 0 := by
  unfold f_M_digit at h
  unfold dig9
  rw [if_pos hi]
  exact (nI_eq (b := 0) (by omega) (by omega)).mp h
theorem dig_1 {a i : Nat} (hi : i < 5) (h : ¬ f_M_digit a i = 0) : ¬ dig9 a i = 0 := by
  intro z
  apply h
  unfold dig9 at z
  rw [if_pos hi] at z
  unfold f_M_digit
  rw [z]
  rfl
theorem em_n1 {E : En} {T : Nat → Nat} {i : Nat} (h : emK E T i = false) : b2i (emK E T (i + 1)) = 0 := by
  rw [show emK E T (i + 1) = (emK E T i && (T i == 0 || dnP E i)) from rfl, h]
  rfl
theorem em_y1 {E : En} {a i : Nat} (h : emK E (dig9 a) i = true) (hi : i < 5) (h2 : f_M_digit a i = 0) : b2i (emK E (dig9 a) (i + 1)) = 1 := by
  rw [show emK E (dig9 a) (i + 1) = (emK E (dig9 a) i && (dig9 a i == 0 || dnP E i)) from rfl, h, dig_0 hi h2]
  rfl
theorem em_n2 {E : En} {a i : Nat} (hi : i < 5) (h2 : ¬ f_M_digit a i = 0) (h4 : ¬ i < 4) : b2i (emK E (dig9 a) (i + 1)) = 0 := by
  have := dig_1 hi h2
  rw [show emK E (dig9 a) (i + 1) = (emK E (dig9 a) i && (dig9 a i == 0 || dnP E i)) from rfl]
  unfold dnP
  rw [show (dig9 a i == 0) = false from beq_eq_false_iff_ne.mpr this]
  simp [h4]
  rfl
theorem em_y2 {A : St} {a i : Nat} (h : emK (envA A) (dig9 a) i = true) (h4 : i < 4) (h2 : (sA_dn A).testBit i = true) : b2i (emK (envA A) (dig9 a) (i + 1)) = 1 := by
  rw [show emK (envA A) (dig9 a) (i + 1) = (emK (envA A) (dig9 a) i && (dig9 a i == 0 || dnP (envA A) i)) from rfl, h]
  unfold dnP
  rw [show (e_dn (envA A)).testBit i = true from h2]
  simp [h4]
  rfl
theorem em_n3 {A : St} {a i : Nat} (hi : i < 5) (h2 : ¬ f_M_digit a i = 0) (h3 : (sA_dn A).testBit i = false) : b2i (emK (envA A) (dig9 a) (i + 1)) = 0 := by
  have := dig_1 hi h2
  rw [show emK (envA A) (dig9 a) (i + 1) = (emK (envA A) (dig9 a) i && (dig9 a i == 0 || dnP (envA A) i)) from rfl]
  unfold dnP
  rw [show (e_dn (envA A)).testBit i = false from h3]
  rw [show (dig9 a i == 0) = false from beq_eq_false_iff_ne.mpr this]
  simp
  rfl

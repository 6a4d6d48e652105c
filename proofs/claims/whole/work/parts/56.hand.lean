/-! Worlds that grow: a list behind a list. Own work. -/
theorem lwa {ws L : va_W} {c : Nat × va_E} (j : Nat) (h : L[j]? = some c) : (ws ++ L)[ws.length + j]? = some c := by
  rw [List.getElem?_append_right (by omega), Nat.add_sub_cancel_left]
  exact h
theorem lws {ws L : va_W} {c : Nat × va_E} {j : Nat} : (ws ++ L).set (ws.length + j) c = ws ++ L.set j c := by
  rw [List.set_append_right _ _ (by omega), Nat.add_sub_cancel_left]
theorem lwp {ws L : va_W} {c : Nat × va_E} {j : Nat} (h : ws[j]? = some c) : (ws ++ L)[j]? = some c := by
  rw [List.getElem?_append_left (List.getElem?_eq_some_iff.mp h).1]
  exact h
theorem lwq {ws L : va_W} {c d : Nat × va_E} {j : Nat} (h : ws[j]? = some d) : (ws ++ L).set j c = ws.set j c ++ L := List.set_append_left _ _ (List.getElem?_eq_some_iff.mp h).1
def PL (X : Xt) (Af : Nat → Prop) (ws : va_W) (h : Heap) : Prop := va_P X.1 classes ws h ∧ va_D Af ws ∧ ∀ q, h.size ≤ q → Af q
theorem K_int {X : Xt} {s : State} {cA : ClassId} {ty : FieldType} (h : va_K X.1 classes (tysX X ++ [(cA, ty)]) s) (hK : KK X s) (t : Nat) {c : ClassId} (ht : (tysX X)[t]? = some (c, ty)) : cA = c := by
  have h1 := (h.2 5 _ rfl).2
  have h2 := (hK.1.2 t _ ht).2
  cases ty with
  | object C =>
    obtain ⟨-, -, -, -, -, a⟩ := h1
    obtain ⟨-, -, -, -, -, b⟩ := h2
    exact Option.some.inj (a.symm.trans b)
  | _ => exact Option.some.inj (h1.symm.trans h2)

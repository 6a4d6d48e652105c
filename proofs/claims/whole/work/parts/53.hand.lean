/-! visit: the answer. Own work. -/
noncomputable def visitF (A : St) (x y z k : Int32) : Int32 := oc (ridx x) (-1) (fun r => @ite _ (visitOk A r y z k) (Classical.propDecidable _) (nI (sA_len A r + 1)) (-1))
noncomputable def visitA (A : St) (x y z k : Int32) : St := oc (ridx x) A (fun r => @ite _ (visitOk A r y z k) (Classical.propDecidable _) (appA A r y.toNatClampNeg z.toNatClampNeg k.toNatClampNeg) A)
theorem visit_none {A : St} {x y z k : Int32} (h : f_Y_routeOf x = none) : -1 = visitF A x y z k ∧ visitA A x y z k = A := by
  rw [routeOf_eq] at h
  unfold visitF visitA
  rw [oc_none h, oc_none h]
  exact ⟨rfl, rfl⟩
theorem visit_bad {A : St} {x y z k : Int32} {r : Nat} (h : f_Y_routeOf x = some r) (hb : ¬ visitOk A r y z k) : -1 = visitF A x y z k ∧ visitA A x y z k = A := by
  rw [routeOf_eq] at h
  unfold visitF visitA
  rw [oc_some h, oc_some h, if_neg hb, if_neg hb]
  exact ⟨rfl, rfl⟩
theorem visit_ok {A : St} {x : Int32} {r a b d : Nat} (h : f_Y_routeOf x = some r) (h0 : sA_n A = 0) (h3 : sA_len A r ≠ 3) (ha : 1 ≤ a ∧ a ≤ 15) (hb : 1 ≤ b ∧ b ≤ 100) (hd : d ≤ 100) : nI (sA_len A r + 1) = visitF A x (nI a) (nI b) (nI d) ∧ visitA A x (nI a) (nI b) (nI d) = appA A r a b d := by
  have hok : visitOk A r (nI a) (nI b) (nI d) := ⟨h0, h3, ⟨nI_le (a := 1) ha.1 (by omega), nI_le (b := 15) ha.2 (by omega)⟩, ⟨nI_le (a := 1) hb.1 (by omega), nI_le (b := 100) hb.2 (by omega)⟩, ⟨nI_pos' (by omega), nI_le (b := 100) hd (by omega)⟩⟩
  rw [routeOf_eq] at h
  unfold visitF visitA
  rw [oc_some h, oc_some h, if_pos hok, if_pos hok, nI_clamp (by omega), nI_clamp (by omega), nI_clamp (by omega)]
  exact ⟨rfl, rfl⟩
theorem len_app {A : St} {r a b d : Nat} : sA_len (appA A r a b d) r = sA_len A r + 1 := va_up_self _ _ _
theorem pl3 {n : Nat} (hn : n < 100) (h : nI n = 3) : n = 3 := (nI_eq (b := 3) (by omega) (by omega)).mp h
theorem cnt_none {f : Nat → Bool} : ∀ {k : Nat}, (∀ i, i < k → f i = false) → cnt f k = 0
  | 0, _ => rfl
  | k + 1, h => by
    unfold cnt
    rw [h k (by omega), cnt_none (fun i hi => h i (by omega))]
    rfl

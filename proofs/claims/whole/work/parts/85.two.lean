/-! Two worlds on one heap; what the tables give. Printed by law.py, own work. -/
theorem lt_1 {w : Cond} (j : Nat) (h : tables_1_1[j]? = some w) : w ∈ lw_tbl := List.mem_append_right _ (List.mem_append_left _ (List.mem_of_getElem? h))
theorem lt_2 {w : Cond} (j : Nat) (h : tables_1_2[j]? = some w) : w ∈ lw_tbl := List.mem_append_right _ (List.mem_append_right _ (List.mem_append_left _ (List.mem_of_getElem? h)))
theorem lt_3 {w : Cond} (j : Nat) (h : tables_1_3[j]? = some w) : w ∈ lw_tbl := List.mem_append_right _ (List.mem_append_right _ (List.mem_append_right _ (List.mem_of_getElem? h)))
theorem NL_in : ∀ w ∈ NL, w ∈ lw_tbl := List.forall_mem_cons.mpr ⟨lt_1 21 rfl, List.forall_mem_cons.mpr ⟨lt_1 28 rfl, List.forall_mem_cons.mpr ⟨lt_1 36 rfl, List.forall_mem_cons.mpr ⟨lt_1 56 rfl, List.forall_mem_cons.mpr ⟨lt_1 70 rfl, List.forall_mem_cons.mpr ⟨lt_1 75 rfl, List.forall_mem_cons.mpr ⟨lt_1 77 rfl, List.forall_mem_cons.mpr ⟨lt_1 118 rfl, List.forall_mem_cons.mpr ⟨lt_1 136 rfl, List.forall_mem_cons.mpr ⟨lt_1 138 rfl, List.forall_mem_cons.mpr ⟨lt_1 140 rfl, List.forall_mem_cons.mpr ⟨lt_1 142 rfl, List.forall_mem_cons.mpr ⟨lt_1 144 rfl, List.forall_mem_cons.mpr ⟨lt_1 146 rfl, List.forall_mem_cons.mpr ⟨lt_1 148 rfl, List.forall_mem_cons.mpr ⟨lt_1 150 rfl, List.forall_mem_cons.mpr ⟨lt_1 152 rfl, List.forall_mem_cons.mpr ⟨lt_1 154 rfl, List.forall_mem_cons.mpr ⟨lt_1 236 rfl, List.forall_mem_cons.mpr ⟨lt_2 126 rfl, fun w h => absurd h List.not_mem_nil⟩⟩⟩⟩⟩⟩⟩⟩⟩⟩⟩⟩⟩⟩⟩⟩⟩⟩⟩⟩
theorem arr_K {ty : FieldType} {a : Array Value} {u : State} (h : (Cond.arrayClass ty).before a u = true) : ∃ cA : ClassId, ArrOfT u cA ty ∧ u.vm.findClass ("[" ++ ty.toString) = some cA := by
  obtain ⟨cA, kA, comp, h1, h2, h3⟩ := Cond.arrayClass_spec h
  exact ⟨cA, fun n z => ⟨(fun k h => by cases h), kA, h2, comp, h3⟩, h1⟩
theorem arr_Q {C : String} {a : Array Value} {u : State} (h : (Cond.arrayOver (.object C)).before a u = true) : ∃ cA : ClassId, ArrOfT u cA (.object C) ∧ va_RA u cA (.object C) := by
  obtain ⟨comp, cA, kA, h1, h2, h3, h4, h5⟩ := Cond.arrayOver_spec h
  exact ⟨cA, fun n z => ⟨(fun k h => by cases h), kA, h3, comp, h4⟩, kA, comp, h3, h4, h1, h5⟩
theorem KK_of {a : Array Value} {u : State} (ht : ∀ w ∈ lw_tbl, w.before a u = true) : ∃ X : Xt, KK X u := by
  have hts : ∀ w ∈ Cond.initialized "ClusterTool" :: WA, w.before a u = true := fun w hw => by
    rcases List.mem_cons.mp hw with rfl | h
    · exact (ht _ (lt_1 1 rfl))
    · exact ht w (List.mem_filter.mp h).1
  obtain ⟨c0, i0, k0⟩ := u_known (C := R_ClusterTool) (T := F_ClusterTool) (N := 8) hts hin_ClusterTool (ht _ (lt_1 12 rfl))
  obtain ⟨c1, i1, k1⟩ := u_known (C := R_Ways) (T := F_Ways) (N := 2) hts hin_Ways (ht _ (lt_1 20 rfl))
  obtain ⟨c2, i2, k2⟩ := u_known (C := R_Emptying) (T := F_Emptying) (N := 2) hts hin_Emptying (ht _ (lt_1 55 rfl))
  obtain ⟨c3, i3, k3⟩ := u_known (C := R_Robot) (T := F_Robot) (N := 2) hts hin_Robot (ht _ (lt_1 69 rfl))
  obtain ⟨c4, i4, k4⟩ := u_known (C := R_Route) (T := F_Route) (N := 4) hts hin_Route (ht _ (lt_1 27 rfl))
  obtain ⟨c5, i5, k5⟩ := u_known (C := R_Wafer) (T := F_Wafer) (N := 10) hts hin_Wafer (ht _ (lt_1 130 rfl))
  obtain ⟨c6, i6, k6⟩ := u_known (C := R_Model) (T := F_Model) (N := 24) hts hin_Model (ht _ (lt_2 149 rfl))
  obtain ⟨xI, aI, bI⟩ := arr_K (ht _ (lt_1 46 rfl))
  obtain ⟨xJ, aJ, bJ⟩ := arr_K (ht _ (lt_1 67 rfl))
  obtain ⟨xZ, aZ, bZ⟩ := arr_K (ht _ (lt_2 227 rfl))
  obtain ⟨xW, aW, bW⟩ := arr_Q (ht _ (lt_1 84 rfl))
  obtain ⟨xR, aR, bR⟩ := arr_Q (ht _ (lt_1 26 rfl))
  refine ⟨(((fun k => match k with | 0 => c0 | 1 => c1 | 2 => c2 | 3 => c3 | 4 => c4 | 5 => c5 | _ => c6), (fun k => match k with | 0 => i0 | 1 => i1 | 2 => i2 | 3 => i3 | 4 => i4 | 5 => i5 | _ => i6)), xI, xJ, xZ, xW, xR), ⟨⟨fun k q hq => ?_, fun k q hq => ?_⟩, fun w hw => va_Nw.of (isNw_tab (NL_all w hw)) (ht w (NL_in w hw)), va_AO.of (ht _ (lt_1 84 rfl)), va_AO.of (ht _ (lt_1 26 rfl))⟩⟩
  · have hk : k < 7 := (List.getElem?_eq_some_iff.mp hq).1
    rcases (show k = 0 ∨ k = 1 ∨ k = 2 ∨ k = 3 ∨ k = 4 ∨ k = 5 ∨ k = 6 by omega) with rfl | rfl | rfl | rfl | rfl | rfl | rfl
    · cases hq; exact k0
    · cases hq; exact k1
    · cases hq; exact k2
    · cases hq; exact k3
    · cases hq; exact k4
    · cases hq; exact k5
    · cases hq; exact k6
  · have hk : k < 5 := (List.getElem?_eq_some_iff.mp hq).1
    rcases (show k = 0 ∨ k = 1 ∨ k = 2 ∨ k = 3 ∨ k = 4 by omega) with rfl | rfl | rfl | rfl | rfl
    · cases hq; exact ⟨aI, bI⟩
    · cases hq; exact ⟨aJ, bJ⟩
    · cases hq; exact ⟨aZ, bZ⟩
    · cases hq; exact ⟨aW, bW⟩
    · cases hq; exact ⟨aR, bR⟩
def apt (w1 w2 : va_W) : Prop := ∀ (i j : Nat) (x y : Nat × va_E), w1[i]? = some x → w2[j]? = some y → x.1 ≠ y.1
def Ao (n : Nat) (w2 : va_W) : Nat → Prop := fun q => n ≤ q ∧ ∀ (j : Nat) (z : Nat × va_E), w2[j]? = some z → z.1 ≠ q
/-- both worlds, apart, above n -/
def TW (X : Xt) (n : Nat) (w1 w2 : va_W) (H : Heap) : Prop := va_P X.1 classes w1 H ∧ va_P X.1 classes w2 H ∧ va_D (fun q => n ≤ q) w1 ∧ va_D (fun q => n ≤ q) w2 ∧ apt w1 w2
section TWS
variable {X : Xt} {n : Nat} {w1 w2 w3 : va_W} {H H1 : Heap}
theorem TW.swap (h : TW X n w1 w2 H) : TW X n w2 w1 H := ⟨h.2.1, h.1, h.2.2.2.1, h.2.2.1, fun i j x y hx hy z => h.2.2.2.2 j i y x hy hx z.symm⟩
theorem TW.d (h : TW X n w1 w2 H) : va_D (Ao n w2) w1 := h.2.2.1.weaken (fun k q hk hq => ⟨hq, fun j z hz e => h.2.2.2.2 k j q z hk hz e.symm⟩)
theorem TW.after (h : TW X n w1 w2 H) (hP : va_P X.1 classes w3 H1) (hD : va_D (Ao n w2) w3) (hk : ∀ q : Nat, q < H.size → ¬ Ao n w2 q → H1[q]? = H[q]?) : TW X n w3 w2 H1 :=
  ⟨hP, h.2.1.kept (fun k q hq => hk q.1 ((h.2.1 k q hq).lt) (fun z => z.2 k q hq rfl)), hD.weaken (fun k q hq z => z.1), h.2.2.2.1, fun i j x y hx hy e => (hD.2 i x hx).2 j y hy e.symm⟩
theorem TW.fresh (h : TW X n w1 w2 H) (hn : n ≤ H.size) : ∀ q, H.size ≤ q → Ao n w2 q := fun q hq => ⟨Nat.le_trans hn hq, fun j z hz e => by
  have := (h.2.1 j z hz).lt
  omega⟩
theorem TW.split (hP : va_P X.1 classes (w1 ++ w2) H) (hD : va_D (fun q => n ≤ q) (w1 ++ w2)) : TW X n w1 w2 H := by
  have f1 : ∀ (k : Nat) (q : Nat × va_E), w1[k]? = some q → (w1 ++ w2)[k]? = some q := fun k q hk => by
    rw [List.getElem?_append_left (List.getElem?_eq_some_iff.mp hk).1]; exact hk
  have f2 : ∀ (k : Nat) (q : Nat × va_E), w2[k]? = some q → (w1 ++ w2)[w1.length + k]? = some q := fun k q hk => by
    rw [List.getElem?_append_right (by omega), Nat.add_sub_cancel_left]; exact hk
  refine ⟨fun k q hk => hP k q (f1 k q hk), fun k q hk => hP _ q (f2 k q hk), ⟨fun i j x y hx hy e => hD.1 i j x y (f1 _ _ hx) (f1 _ _ hy) e, fun k q hk => hD.2 k q (f1 _ _ hk)⟩, ⟨fun i j x y hx hy e => ?_, fun k q hk => hD.2 _ q (f2 _ _ hk)⟩, fun i j x y hx hy e => ?_⟩
  · have := hD.1 _ _ x y (f2 _ _ hx) (f2 _ _ hy) e
    omega
  · have h1 := hD.1 _ _ x y (f1 _ _ hx) (f2 _ _ hy) e
    have h2 := (List.getElem?_eq_some_iff.mp hx).1
    omega
end TWS
theorem lenx {a b : Nat} (ha : a ≤ 2560) (hb : b ≤ 5000) : nI a - 5 < nI b ↔ a < b + 5 := by
  have h := pk_sub_toInt (a := a) (b := 5) (by omega) (by omega)
  have h5 : (nI a - nI 5).toInt = (nI a - 5).toInt := rfl
  rw [Int32.lt_iff_toInt_lt, ← h5, h, nI_toInt (by omega)]
  omega
theorem sw17 (x : Int32) : x = 0 ∨ x = 1 ∨ x = 2 ∨ x = 3 ∨ x = 4 ∨ x = 5 ∨ x = 6 ∨ x = 7 ∨ x = 8 ∨ x = 9 ∨ x = 10 ∨ x = 11 ∨ x = 12 ∨ x = 13 ∨ x = 14 ∨ x = 15 ∨ x = 16 ∨ (x.toInt < 0 ∨ 16 < x.toInt) := by
  by_cases h : 0 ≤ x.toInt ∧ x.toInt ≤ 16
  · have h0 : (0 : Int32) ≤ x := by
      rw [Int32.le_iff_toInt_le]
      exact h.1
    obtain ⟨j, hj, rfl⟩ := i32_nat h0
    rw [nI_toInt hj] at h
    have hj2 : j < 17 := by omega
    clear h h0 hj
    revert j
    decide +kernel
  · have h2 : x.toInt < 0 ∨ 16 < x.toInt := by omega
    simp only [h2, or_true]

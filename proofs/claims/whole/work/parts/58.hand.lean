/-! A new tool; a wafer that is loaded. Own work. -/
def A00 : St := (fun _ => 0, fun _ _ => 0, fun _ _ => 0, fun _ _ => 0, 0, fun _ => 0, fun _ => 0, fun _ => 0, fun _ => 0, fun _ => 0, fun _ => false, fun _ _ => 0, fun _ _ => 0, fun _ _ => 0, 0, 0, false, false, 0, 0)
def ins00 : Nat → Int32 := upd (upd (upd (upd (upd (fun _ => 0) 0 (-1)) 1 (-1)) 2 (-1)) 3 (-1)) 4 (-1)
def G00 (u : Nat → Nat) : Gc := (u, fun _ => 0, fun _ => false, ins00, fun _ => 0, fun _ => 0)
theorem wRefs_00 (u : Nat → Nat) : (fun _ => none) = wRefs (G00 u) A00 := by
  funext i
  unfold wRefs
  rw [if_neg (by show ¬ i < 0; omega)]
theorem rRefs_up {G : Gc} {a b : Nat} (ha : a = gA_ad G 8) (hb : b = gA_ad G 12) : va_up (va_up (fun _ => none) 0 (some a)) 1 (some b) = rRefs G := by
  subst ha; subst hb
  funext r
  unfold va_up rRefs
  by_cases h0 : r = 0
  · subst h0; rfl
  · by_cases h1 : r = 1
    · subst h1; rfl
    · rw [if_neg h1, if_neg h0, if_neg h0, if_neg h1]
theorem Inv_00 : Inv A00 := by
  refine ⟨by decide, ⟨fun r => Nat.zero_le _, fun r i hi => ?_, by decide⟩, fun i hi => ?_, fun i j hi => ?_, fun i _ => ⟨rfl, rfl, rfl, rfl, rfl, rfl, rfl, rfl, rfl⟩⟩
  · have hi : i < 0 := hi
    omega
  · have hi : i < 0 := hi
    omega
  · have hi : i < 0 := hi
    omega
theorem RC_00 (u : Nat → Nat) : RC (G00 u) A00 := by
  refine ⟨fun q hq => ?_, fun i hi => ?_, fun i hi => ?_, MI_zero (fun k _ => rfl) (fun k _ => rfl), fun _ k _ => ⟨rfl, rfl⟩⟩
  · rcases (show q = 0 ∨ q = 1 ∨ q = 2 ∨ q = 3 ∨ q = 4 by omega) with rfl | rfl | rfl | rfl | rfl <;> rfl
  · have hi : i < 0 := hi
    omega
  · have hi : i < 0 := hi
    omega
def ldA (A : St) (r : Nat) : St := sU_n (sU_pl (sU_rt A (va_up (sA_rt A) (sA_n A) r)) (va_up (sA_pl A) (sA_n A) 5)) (sA_n A + 1)
def ldAd (f : Nat → Nat) (n : Nat) (u : Nat × Nat × Nat × Nat) : Nat → Nat := fun k => if k = 18 + 4 * n then u.1 else if k = 18 + 4 * n + 1 then u.2.1 else if k = 18 + 4 * n + 2 then u.2.2.1 else if k = 18 + 4 * n + 3 then u.2.2.2 else f k
def ldG (G : Gc) (n : Nat) (u : Nat × Nat × Nat × Nat) (b : Bool) : Gc := gU_fi (gU_wt (gU_ad G (ldAd (gA_ad G) n u)) (va_up (gA_wt G) n 0)) (va_up (gA_fi G) n b)
theorem ldAd_lt {f : Nat → Nat} {n k : Nat} {u : Nat × Nat × Nat × Nat} (h : k < 18 + 4 * n) : ldAd f n u k = f k := by
  unfold ldAd
  rw [if_neg (by omega), if_neg (by omega), if_neg (by omega), if_neg (by omega)]
theorem ldAd_at {f : Nat → Nat} {n : Nat} {u : Nat × Nat × Nat × Nat} : ldAd f n u (18 + 4 * n) = u.1 ∧ ldAd f n u (18 + 4 * n + 1) = u.2.1 ∧ ldAd f n u (18 + 4 * n + 2) = u.2.2.1 ∧ ldAd f n u (18 + 4 * n + 3) = u.2.2.2 := by
  unfold ldAd
  refine ⟨by rw [if_pos rfl], by rw [if_neg (by omega), if_pos rfl], by rw [if_neg (by omega), if_neg (by omega), if_pos rfl], by rw [if_neg (by omega), if_neg (by omega), if_neg (by omega), if_pos rfl]⟩
theorem wRefs_ld {G : Gc} {A : St} {r : Nat} {u : Nat × Nat × Nat × Nat} {b : Bool} : va_up (wRefs G A) (sA_n A) (some u.1) = wRefs (ldG G (sA_n A) u b) (ldA A r) := by
  funext i
  unfold va_up wRefs
  by_cases h : i = sA_n A
  · subst h
    rw [if_pos rfl, if_pos (show sA_n A < sA_n (ldA A r) from Nat.lt_succ_self _)]
    exact congrArg some ldAd_at.1.symm
  · rw [if_neg h]
    by_cases h2 : i < sA_n A
    · rw [if_pos h2, if_pos (show i < sA_n (ldA A r) from Nat.lt_succ_of_lt h2)]
      exact congrArg some (ldAd_lt (by omega)).symm
    · rw [if_neg h2, if_neg (show ¬ i < sA_n (ldA A r) from fun z => by have z : i < sA_n A + 1 := z; omega)]
theorem rRefs_ld {G : Gc} {n : Nat} {u : Nat × Nat × Nat × Nat} {b : Bool} : rRefs (ldG G n u b) = rRefs G := by
  funext r
  unfold rRefs
  rw [show gA_ad (ldG G n u b) 8 = gA_ad G 8 from ldAd_lt (by omega), show gA_ad (ldG G n u b) 12 = gA_ad G 12 from ldAd_lt (by omega)]
theorem cw_load {X : Xt} {G : Gc} {A : St} {r : Nat} {u : Nat × Nat × Nat × Nat} {b : Bool} (hf : fresh A (sA_n A)) :
    ((cw X G A).set 5 (gA_ad G 5, .inl (x_W X, aQ 25 (va_up (wRefs G A) (sA_n A) (some u.1))))).set 0 (gA_ad G 0, .inr (0, (o_tool G A).set 6 (.int (nI (sA_n A + 1))))) ++
      [(u.1, .inr (5, [.int (nI r), .ref u.2.1, .ref u.2.2.1, .ref u.2.2.2, .int 5, .int 0, .int 0, .int 0, .int (b2i b), .int 0])), (u.2.1, .inl (x_I X, aI 3 (fun _ => 0))), (u.2.2.1, .inl (x_I X, aI 3 (fun _ => 0))), (u.2.2.2, .inl (x_I X, aI 3 (fun _ => 0)))] = cw X (ldG G (sA_n A) u b) (ldA A r) := by
  obtain ⟨f1, f2, f3, f4, f5, f6, f7, f8, f9⟩ := hf
  generalize hn : sA_n A = n at *
  have eF : (((cwF X G A).set 5 (gA_ad G 5, .inl (x_W X, aQ 25 (va_up (wRefs G A) n (some u.1))))).set 0 (gA_ad G 0, .inr (0, (o_tool G A).set 6 (.int (nI (n + 1)))))) = cwF X (ldG G n u b) (ldA A r) := by
    have hw : va_up (wRefs G A) n (some u.1) = wRefs (ldG G n u b) (ldA A r) := by rw [← hn]; exact wRefs_ld
    have ad : ∀ k, k < 18 → gA_ad (ldG G n u b) k = gA_ad G k := fun k hk => ldAd_lt (by omega)
    unfold cwF o_tool o_ways o_emp o_route
    rw [hw, rRefs_ld, ad 0 (by omega), ad 1 (by omega), ad 2 (by omega), ad 3 (by omega), ad 4 (by omega), ad 5 (by omega), ad 6 (by omega), ad 7 (by omega), ad 8 (by omega), ad 9 (by omega), ad 10 (by omega), ad 11 (by omega), ad 12 (by omega), ad 13 (by omega), ad 14 (by omega), ad 15 (by omega), ad 16 (by omega), ad 17 (by omega)]
    have hn2 : sA_n (ldA A r) = n + 1 := by unfold ldA; rw [hn]
    rw [hn2]
    rfl
  have eW : (List.range (4 * n)).map (wcell X G A) = (List.range (4 * n)).map (wcell X (ldG G n u b) (ldA A r)) := by
    apply List.map_congr_left
    intro k hk
    have hk := List.mem_range.mp hk
    unfold wcell
    have ea : gA_ad (ldG G n u b) (18 + k) = gA_ad G (18 + k) := ldAd_lt (by omega)
    have hj : k / 4 ≠ n := by omega
    have es : sA_rt (ldA A r) (k / 4) = sA_rt A (k / 4) ∧ sA_pl (ldA A r) (k / 4) = sA_pl A (k / 4) := by
      unfold ldA
      rw [hn]
      exact ⟨va_up_ne _ _ hj, va_up_ne _ _ hj⟩
    rw [ea]
    congr 1
    have e1 : gA_ad (ldG G n u b) (18 + 4 * (k / 4) + 1) = gA_ad G (18 + 4 * (k / 4) + 1) := ldAd_lt (by omega)
    have e2 : gA_ad (ldG G n u b) (18 + 4 * (k / 4) + 2) = gA_ad G (18 + 4 * (k / 4) + 2) := ldAd_lt (by omega)
    have e3 : gA_ad (ldG G n u b) (18 + 4 * (k / 4) + 3) = gA_ad G (18 + 4 * (k / 4) + 3) := ldAd_lt (by omega)
    have e4 : gA_wt (ldG G n u b) (k / 4) = gA_wt G (k / 4) := va_up_ne _ _ hj
    have e5 : gA_fi (ldG G n u b) (k / 4) = gA_fi G (k / 4) := va_up_ne _ _ hj
    rcases (show k % 4 = 0 ∨ k % 4 = 1 ∨ k % 4 = 2 ∨ k % 4 = 3 by omega) with h | h | h | h
    · rw [h]
      unfold wE o_waf
      rw [e1, e2, e3, e4, e5, es.1, es.2]
      rfl
    · rw [h]; rfl
    · rw [h]; rfl
    · rw [h]; rfl
  have eN : (List.range (4 * (n + 1))).map (wcell X (ldG G n u b) (ldA A r)) = (List.range (4 * n)).map (wcell X (ldG G n u b) (ldA A r)) ++ [(u.1, .inr (5, [.int (nI r), .ref u.2.1, .ref u.2.2.1, .ref u.2.2.2, .int 5, .int 0, .int 0, .int 0, .int (b2i b), .int 0])), (u.2.1, .inl (x_I X, aI 3 (fun _ => 0))), (u.2.2.1, .inl (x_I X, aI 3 (fun _ => 0))), (u.2.2.2, .inl (x_I X, aI 3 (fun _ => 0)))] := by
    rw [show 4 * (n + 1) = 4 * n + 1 + 1 + 1 + 1 by omega, List.range_succ, List.range_succ, List.range_succ, List.range_succ]
    simp only [List.map_append, List.map_cons, List.map_nil, List.append_assoc, List.cons_append, List.nil_append]
    have hA1 : gA_ad (ldG G n u b) (18 + 4 * n) = u.1 := ldAd_at.1
    have hA2 : gA_ad (ldG G n u b) (18 + 4 * n + 1) = u.2.1 := ldAd_at.2.1
    have hA3 : gA_ad (ldG G n u b) (18 + 4 * n + 2) = u.2.2.1 := ldAd_at.2.2.1
    have hA4 : gA_ad (ldG G n u b) (18 + 4 * n + 3) = u.2.2.2 := ldAd_at.2.2.2
    have hr : sA_rt (ldA A r) n = r := by unfold ldA; rw [hn]; exact va_up_self _ _ _
    have hp : sA_pl (ldA A r) n = 5 := by unfold ldA; rw [hn]; exact va_up_self _ _ _
    have hw : gA_wt (ldG G n u b) n = 0 := va_up_self _ _ _
    have hfi : gA_fi (ldG G n u b) n = b := va_up_self _ _ _
    have c0 : wcell X (ldG G n u b) (ldA A r) (4 * n) = (u.1, .inr (5, [.int (nI r), .ref u.2.1, .ref u.2.2.1, .ref u.2.2.2, .int 5, .int 0, .int 0, .int 0, .int (b2i b), .int 0])) := by
      have := wcell_at (X := X) (G := ldG G n u b) (A := ldA A r) (i := n) (t := 0) (by omega)
      rw [Nat.add_zero] at this
      rw [this, hA1]
      unfold wE o_waf
      rw [hr, hp, hw, hfi, hA2, hA3, hA4, show sA_sg (ldA A r) n = 0 from f3, show sA_lf (ldA A r) n = 0 from f4, show sA_la (ldA A r) n = false from f6]
      rfl
    have c1 : wcell X (ldG G n u b) (ldA A r) (4 * n + 1) = (u.2.1, .inl (x_I X, aI 3 (fun _ => 0))) := by
      rw [wcell_at (by omega), ← Nat.add_assoc, hA2]
      unfold wE
      rw [show sA_ch (ldA A r) n = fun _ => 0 from f7]
      rfl
    have c2 : wcell X (ldG G n u b) (ldA A r) (4 * n + 1 + 1) = (u.2.2.1, .inl (x_I X, aI 3 (fun _ => 0))) := by
      rw [show 4 * n + 1 + 1 = 4 * n + 2 by omega, wcell_at (by omega), ← Nat.add_assoc, hA3]
      unfold wE
      rw [show sA_be (ldA A r) n = fun _ => 0 from f8]
      rfl
    have c3 : wcell X (ldG G n u b) (ldA A r) (4 * n + 1 + 1 + 1) = (u.2.2.2, .inl (x_I X, aI 3 (fun _ => 0))) := by
      rw [show 4 * n + 1 + 1 + 1 = 4 * n + 3 by omega, wcell_at (by omega), ← Nat.add_assoc, hA4]
      unfold wE
      rw [show sA_en (ldA A r) n = fun _ => 0 from f9]
      rfl
    rw [c0, c1, c2, c3]
  have hn2 : sA_n (ldA A r) = n + 1 := by unfold ldA; rw [hn]
  unfold cw
  rw [hn2, hn, eN, ← eF, ← eW, ← List.append_assoc]
  rfl

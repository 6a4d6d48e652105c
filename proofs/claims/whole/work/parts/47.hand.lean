/-! A move keeps the invariant and the relation. Own work. -/
theorem moveA_f {A : St} {i q : Nat} : sA_n (moveA A i q) = sA_n A ∧ sA_len (moveA A i q) = sA_len A ∧ sA_mk (moveA A i q) = sA_mk A ∧ sA_tm (moveA A i q) = sA_tm A ∧ sA_lm (moveA A i q) = sA_lm A ∧ sA_rt (moveA A i q) = sA_rt A ∧ sA_dn (moveA A i q) = sA_dn A ∧ sA_la (moveA A i q) = sA_la A ∧ sA_pl (moveA A i q) = va_up (sA_pl A) i q := by
  unfold moveA mvA plB robB robA begA begA0
  by_cases h : q < 4
  · rw [if_pos h]
    by_cases hb : (backN (sA_pl A i) || backN q) = true
    · rw [if_pos hb]; exact ⟨rfl, rfl, rfl, rfl, rfl, rfl, rfl, rfl, rfl⟩
    · rw [if_neg hb]; exact ⟨rfl, rfl, rfl, rfl, rfl, rfl, rfl, rfl, rfl⟩
  · rw [if_neg h]
    by_cases hb : (backN (sA_pl A i) || backN q) = true
    · rw [if_pos hb]; exact ⟨rfl, rfl, rfl, rfl, rfl, rfl, rfl, rfl, rfl⟩
    · rw [if_neg hb]; exact ⟨rfl, rfl, rfl, rfl, rfl, rfl, rfl, rfl, rfl⟩
theorem moveA_4 {A : St} {i q : Nat} (h : q < 4) : sA_sg (moveA A i q) = va_up (sA_sg A) i (sA_sg A i + 1) ∧ sA_lf (moveA A i q) = va_up (sA_lf A) i (sA_tm A (sA_rt A i) (sA_sg A i)) ∧ sA_sn (moveA A i q) = va_up (sA_sn A) i 0 ∧
    sA_en (moveA A i q) = va_up (sA_en A) i (upd (sA_en A i) (sA_sg A i) (-1)) ∧ sA_ch (moveA A i q) = va_up (sA_ch A) i (upd (sA_ch A i) (sA_sg A i) (nI q)) ∧ sA_be (moveA A i q) = va_up (sA_be A) i (upd (sA_be A i) (sA_sg A i) (sA_ck A)) := by
  unfold moveA mvA plB robB robA begA begA0
  rw [if_pos h]
  by_cases hb : (backN (sA_pl A i) || backN q) = true
  · rw [if_pos hb]; exact ⟨rfl, rfl, rfl, rfl, rfl, rfl⟩
  · rw [if_neg hb]; exact ⟨rfl, rfl, rfl, rfl, rfl, rfl⟩
theorem moveA_5 {A : St} {i q : Nat} (h : ¬ q < 4) : sA_sg (moveA A i q) = sA_sg A ∧ sA_lf (moveA A i q) = sA_lf A ∧ sA_sn (moveA A i q) = sA_sn A ∧ sA_en (moveA A i q) = sA_en A ∧ sA_ch (moveA A i q) = sA_ch A ∧ sA_be (moveA A i q) = sA_be A := by
  unfold moveA mvA plB robB robA begA begA0
  rw [if_neg h]
  by_cases hb : (backN (sA_pl A i) || backN q) = true
  · rw [if_pos hb]; exact ⟨rfl, rfl, rfl, rfl, rfl, rfl⟩
  · rw [if_neg hb]; exact ⟨rfl, rfl, rfl, rfl, rfl, rfl⟩
theorem envA_move {A : St} {i q : Nat} : envA (moveA A i q) = envA A := by
  obtain ⟨-, f1, f2, -, -, -, f3, -⟩ := moveA_f (A := A) (i := i) (q := q)
  unfold envA
  rw [f1, f2, f3]
theorem may_0 {A : St} {i q : Nat} (h : mayN A i q = 0) : sA_lf A i = 0 ∧ fin A i = false ∧ leadN (sA_dn A) (mskN (envA A) (sA_rt A i) (sA_sg A i)) (sA_pl A i) q = true ∧ (q = sA_pl A i ∨ inP A q = -1) := by
  unfold mayN at h
  split at h
  · exact absurd h (by decide)
  · next h1 =>
    split at h
    · exact absurd h (by decide)
    · next h2 =>
      split at h
      · exact absurd h (by decide)
      · next h3 =>
        refine ⟨?_, ?_, ?_, ?_⟩
        · rcases Nat.eq_zero_or_pos (sA_lf A i) with h4 | h4
          · exact h4
          · exact absurd (Or.inl h4) h1
        · cases hf : fin A i with
          | false => rfl
          | true => exact absurd (Or.inr hf) h1
        · simpa using h2
        · by_cases e : q = sA_pl A i
          · exact Or.inl e
          · by_cases e2 : inP A q = -1
            · exact Or.inr e2
            · exact absurd ⟨e, e2⟩ h3
theorem lead_5 {d k p : Nat} (h : leadN d k p 5 = true) : k = 0 := by
  unfold leadN at h
  by_cases hk : k = 0
  · exact hk
  · rw [if_neg hk] at h
    simp at h
theorem lead_sg {A : St} {i q : Nat} (hq : q < 4) (h : leadN (sA_dn A) (mskN (envA A) (sA_rt A i) (sA_sg A i)) (sA_pl A i) q = true) : sA_sg A i < sA_len A (sA_rt A i) := by
  have hk := lead_q4 h hq
  unfold mskN at hk
  split at hk
  · assumption
  · exact absurd rfl hk
theorem lead_fin {A : St} {i : Nat} (hI : Inv A) (hi : i < sA_n A) (h : leadN (sA_dn A) (mskN (envA A) (sA_rt A i) (sA_sg A i)) (sA_pl A i) 5 = true) : sA_sg A i = sA_len A (sA_rt A i) := by
  have hk := lead_5 h
  have h2 := (hI.2.2.1 i hi).2.1
  by_cases h3 : sA_sg A i < sA_len A (sA_rt A i)
  · exfalso
    unfold mskN at hk
    rw [if_pos (show sA_sg A i < e_len (envA A) (sA_rt A i) from h3)] at hk
    have := (hI.2.1.2.1 _ _ h3).1
    have hk : sA_mk A (sA_rt A i) (sA_sg A i) = 0 := hk
    omega
  · omega
theorem inP_m1 {A : St} {q : Nat} (hI : Inv A) (hq : q < 5) (h : inP A q = -1) : ∀ j, j < sA_n A → sA_pl A j ≠ q := by
  rcases inP_cases hI.2.2.2.1 hq with ⟨-, h2⟩ | ⟨j, hj, -, h2⟩
  · exact h2
  · rw [h2] at h
    exfalso
    have : (nI j).toInt = -1 := by rw [h]; rfl
    rw [nI_toInt (by have := hI.1; omega)] at this
    omega
/-- nobody else is where the wafer goes -/
theorem goes_free {A : St} {i q j : Nat} (hI : Inv A) (hi : i < sA_n A) (h : mayN A i q = 0) (hq : q < 5) (hj : j < sA_n A) (hne : j ≠ i) : sA_pl A j ≠ q := by
  obtain ⟨-, -, -, ht⟩ := may_0 h
  rcases ht with e | e
  · intro z
    exact hne (hI.2.2.2.1 j i hj hi (by omega) (by omega))
  · exact inP_m1 hI hq e j hj
theorem uniq_move {A : St} {i q : Nat} (hI : Inv A) (hi : i < sA_n A) (h : mayN A i q = 0) : uniq (moveA A i q) := by
  obtain ⟨f1, -, -, -, -, -, -, -, f9⟩ := moveA_f (A := A) (i := i) (q := q)
  intro a b ha hb he h5
  rw [f1] at ha hb
  rw [f9] at he h5
  by_cases e1 : a = i
  · by_cases e2 : b = i
    · omega
    · subst e1
      rw [va_up_self] at he h5
      rw [va_up_ne _ _ e2] at he
      exact absurd he.symm (goes_free hI hi h h5 hb e2)
  · by_cases e2 : b = i
    · subst e2
      rw [va_up_ne _ _ e1] at he h5
      rw [va_up_self] at he
      exact absurd he (goes_free hI hi h (by omega) ha e1)
    · rw [va_up_ne _ _ e1] at he h5
      rw [va_up_ne _ _ e2] at he
      exact hI.2.2.2.1 a b ha hb he h5
theorem Inv_move {A : St} {i q : Nat} (hI : Inv A) (hi : i < sA_n A) (hq : q < 6) (h : mayN A i q = 0) : Inv (moveA A i q) := by
  obtain ⟨f1, f2, f3, f4, f5, f6, f7, f8, f9⟩ := moveA_f (A := A) (i := i) (q := q)
  obtain ⟨m1, m2, m3, m4⟩ := may_0 h
  obtain ⟨hn, hR, hW, hu, hfr⟩ := hI
  have hR2 : rOk (moveA A i q) := by
    unfold rOk
    rw [f2, f3, f4, f5, f7]
    exact hR
  refine ⟨by rw [f1]; exact hn, hR2, fun j hj => ?_, uniq_move ⟨hn, hR, hW, hu, hfr⟩ hi h, fun j hj => ?_⟩
  · rw [f1] at hj
    obtain ⟨w1, w2, w3, w4, w5, w6, w7⟩ := hW j hj
    unfold wOk
    rw [f2, f5, f6, f8, f9]
    by_cases e : j = i
    · subst e
      rw [va_up_self]
      by_cases h4 : q < 4
      · obtain ⟨g1, g2, g3, g4, -, -⟩ := moveA_4 (A := A) (i := j) h4
        rw [g1, g2, g3, g4, va_up_self, va_up_self, va_up_self, va_up_self]
        have hs := lead_sg h4 m3
        have ht := (hR.2.1 _ _ hs)
        refine ⟨w1, by omega, by omega, by omega, fun _ => by omega, fun _ => ⟨h4, ?_⟩, fun _ _ => Or.inr (by omega)⟩
        rw [Nat.add_sub_cancel]
        exact pk_us
      · obtain ⟨g1, g2, g3, g4, -, -⟩ := moveA_5 (A := A) (i := j) h4
        rw [g1, g2, g3, g4]
        exact ⟨w1, w2, by omega, w4, fun z => absurd z h4, fun z => by omega, fun z => absurd z h4⟩
    · rw [va_up_ne _ _ e]
      by_cases h4 : q < 4
      · obtain ⟨g1, g2, g3, g4, -, -⟩ := moveA_4 (A := A) (i := i) h4
        rw [g1, g2, g3, g4, va_up_ne _ _ e, va_up_ne _ _ e, va_up_ne _ _ e, va_up_ne _ _ e]
        exact ⟨w1, w2, w3, w4, w5, w6, w7⟩
      · obtain ⟨g1, g2, g3, g4, -, -⟩ := moveA_5 (A := A) (i := i) h4
        rw [g1, g2, g3, g4]
        exact ⟨w1, w2, w3, w4, w5, w6, w7⟩
  · rw [f1] at hj
    have e : j ≠ i := by omega
    obtain ⟨r1, r2, r3, r4, r5, r6, r7, r8, r9⟩ := hfr j hj
    unfold fresh
    rw [f6, f8, f9, va_up_ne _ _ e]
    by_cases h4 : q < 4
    · obtain ⟨g1, g2, g3, g4, g5, g6⟩ := moveA_4 (A := A) (i := i) h4
      rw [g1, g2, g3, g4, g5, g6, va_up_ne _ _ e, va_up_ne _ _ e, va_up_ne _ _ e, va_up_ne _ _ e, va_up_ne _ _ e, va_up_ne _ _ e]
      exact ⟨r1, r2, r3, r4, r5, r6, r7, r8, r9⟩
    · obtain ⟨g1, g2, g3, g4, g5, g6⟩ := moveA_5 (A := A) (i := i) h4
      rw [g1, g2, g3, g4, g5, g6]
      exact ⟨r1, r2, r3, r4, r5, r6, r7, r8, r9⟩
theorem occ_congr {A B : St} {x : Nat} : ∀ {k : Nat}, (∀ j, j < k → (sA_pl B j = x ↔ sA_pl A j = x)) → occ B x k = occ A x k
  | 0, _ => rfl
  | k + 1, h => by
    unfold occ
    rw [occ_congr (fun j hj => h j (by omega))]
    by_cases e : sA_pl A k = x
    · rw [if_pos e, if_pos ((h k (by omega)).mpr e)]
    · rw [if_neg e, if_neg (fun z => e ((h k (by omega)).mp z))]
theorem ins_move {G : Gc} {A : St} {i q x : Nat} (hI : Inv A) (hC : RC G A) (hi : i < sA_n A) (hq : q < 6) (h : mayN A i q = 0) (hx : x < 5) : ins2 (ins1 (gA_ins G) (sA_pl A i)) q i x = inP (moveA A i q) x := by
  obtain ⟨f1, -, -, -, -, -, -, -, f9⟩ := moveA_f (A := A) (i := i) (q := q)
  have hold : ins1 (gA_ins G) (sA_pl A i) x = if x = sA_pl A i then -1 else inP A x := by
    unfold ins1
    by_cases e5 : sA_pl A i = 5
    · rw [if_pos e5, if_neg (by omega)]
      exact hC.1 x hx
    · rw [if_neg e5]
      by_cases e : x = sA_pl A i
      · rw [if_pos e, e]
        exact pk_us
      · rw [if_neg e, pk_un e]
        exact hC.1 x hx
  unfold inP
  rw [if_pos hx, f1]
  unfold ins2
  by_cases eq : x = q
  · rw [if_neg (show ¬ q = 5 by omega), eq, pk_us]
    refine (occ_some (i := i) (by rw [f9, va_up_self]) hi (fun j hj hpj => ?_)).symm
    by_cases e : j = i
    · exact e
    · rw [f9, va_up_ne _ _ e] at hpj
      exact absurd hpj (goes_free hI hi h (by omega) hj e)
  · have e1 : (if q = 5 then ins1 (gA_ins G) (sA_pl A i) else upd (ins1 (gA_ins G) (sA_pl A i)) q (nI i)) x = ins1 (gA_ins G) (sA_pl A i) x := by
      by_cases e5 : q = 5
      · rw [if_pos e5]
      · rw [if_neg e5, pk_un eq]
    rw [e1, hold]
    by_cases ek : x = sA_pl A i
    · rw [if_pos ek]
      refine (occ_none (fun j hj hpj => ?_)).symm
      by_cases e : j = i
      · rw [f9, e, va_up_self] at hpj
        omega
      · rw [f9, va_up_ne _ _ e] at hpj
        exact e (hI.2.2.2.1 j i hj hi (by omega) (by omega))
    · rw [if_neg ek]
      unfold inP
      rw [if_pos hx]
      refine (occ_congr (fun j hj => ?_)).symm
      by_cases e : j = i
      · rw [f9, e, va_up_self]
        constructor
        · intro z; omega
        · intro z; omega
      · rw [f9, va_up_ne _ _ e]
theorem RC_move {G : Gc} {A : St} {i q : Nat} (hI : Inv A) (hC : RC G A) (hi : i < sA_n A) (hq : q < 6) (h : mayN A i q = 0) : RC (carG G (sA_pl A i) i q) (moveA A i q) := by
  obtain ⟨f1, f2, f3, f4, f5, f6, f7, f8, f9⟩ := moveA_f (A := A) (i := i) (q := q)
  obtain ⟨m1, m2, m3, m4⟩ := may_0 h
  refine ⟨fun x hx => ins_move hI hC hi hq h hx, fun j hj => ?_, fun j hj h4 => ?_, ?_, fun z => ?_⟩
  · rw [f1] at hj
    show va_up (gA_fi G) i (decide (q = 5)) j = fin (moveA A i q) j
    unfold fin
    rw [f2, f6, f9]
    by_cases e : j = i
    · subst e
      rw [va_up_self, va_up_self]
      by_cases e5 : q = 5
      · subst e5
        rw [(moveA_5 (A := A) (i := j) (q := 5) (by omega)).1, lead_fin hI hj m3]
        simp
      · simp [e5]
    · rw [va_up_ne _ _ e, va_up_ne _ _ e, hC.2.1 j hj]
      unfold fin
      by_cases hq4 : q < 4
      · rw [(moveA_4 (A := A) (i := i) hq4).1, va_up_ne _ _ e]
      · rw [(moveA_5 (A := A) (i := i) hq4).1]
  · rw [f1] at hj
    show va_up (gA_wt G) i 0 j = nI (sA_sn (moveA A i q) j)
    rw [f9] at h4
    by_cases e : j = i
    · subst e
      rw [va_up_self] at h4 ⊢
      rw [(moveA_4 (A := A) (i := j) h4).2.2.1, va_up_self]
      rfl
    · rw [va_up_ne _ _ e] at h4 ⊢
      rw [hC.2.2.1 j hj h4]
      by_cases hq4 : q < 4
      · rw [(moveA_4 (A := A) (i := i) hq4).2.2.1, va_up_ne _ _ e]
      · rw [(moveA_5 (A := A) (i := i) hq4).2.2.1]
  · rw [envA_move]
    exact hC.2.2.2.1
  · rw [f1] at z
    omega
theorem mayF_0 {A : St} {x y : Int32} (hn : sA_n A ≤ 25) (h : mayF A x y = 0) : ∃ i q : Nat, i < sA_n A ∧ q < 6 ∧ x = nI i ∧ y = nI q ∧ mayN A i q = 0 := by
  unfold mayF at h
  cases hw : widx A x with
  | none => rw [oc_none hw] at h; exact absurd h (by decide)
  | some i =>
    rw [oc_some hw] at h
    cases hp : pidx y with
    | none => rw [oc_none hp] at h; exact absurd h (by decide)
    | some q =>
      rw [oc_some hp] at h
      obtain ⟨a1, a2⟩ := widx_some hw hn
      obtain ⟨b1, b2⟩ := pidx_some hp
      exact ⟨i, q, a1, b1, a2, b2, h⟩
def moveF (A : St) (x y : Int32) : St := if mayF A x y = 0 then moveA A x.toNatClampNeg y.toNatClampNeg else A
theorem moveF_at {A : St} {i q : Nat} (hi : i < 100) (hq : q < 6) (h : mayF A (nI i) (nI q) = 0) : moveF A (nI i) (nI q) = moveA A i q := by
  unfold moveF
  rw [if_pos h, nI_clamp (by omega), nI_clamp (by omega)]
/-- what a public writer says at its end -/
def AP (G : Gc) (F : Int32) (A' : St) (ans : Int32) (u : Gc × St) : Prop := ans = F ∧ u.2 = A' ∧ RC u.1 A' ∧ gA_ad u.1 0 = gA_ad G 0

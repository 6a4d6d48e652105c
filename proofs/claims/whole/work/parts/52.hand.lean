/-! visit, count and tick of the class. Own work. -/
def ridx (x : Int32) : Option Nat := if x = 0 then some 0 else if x = 1 then some 1 else none
theorem routeOf_eq (x : Int32) : f_Y_routeOf x = ridx x := by
  unfold ridx
  by_cases h0 : x = 0
  · subst h0; rfl
  · by_cases h1 : x = 1
    · subst h1; rfl
    · rw [if_neg h0, if_neg h1]
      unfold f_Y_routeOf
      rw [if_neg]
      intro h
      obtain ⟨a, b⟩ := within_iff.mp h
      obtain ⟨j, hj, rfl⟩ := i32_nat a
      have hj1 := (nI_leI (b := 1) hj (by omega)).mp b
      rcases (show j = 0 ∨ j = 1 by omega) with rfl | rfl
      · exact h0 rfl
      · exact h1 rfl
def appA (A : St) (r a b d : Nat) : St := sU_len (sU_lm (sU_tm (sU_mk A (va_up (sA_mk A) r (va_up (sA_mk A r) (sA_len A r) a))) (va_up (sA_tm A) r (va_up (sA_tm A r) (sA_len A r) b))) (va_up (sA_lm A) r (va_up (sA_lm A r) (sA_len A r) d))) (va_up (sA_len A) r (sA_len A r + 1))
theorem append_eq {G : Gc} {A : St} {r a b d : Nat} (h : sA_len A r < 3) : g_U_append G A r a b d = (G, appA A r a b d) := by
  unfold g_U_append appA
  rw [if_neg (show ¬ (3 : Int32) ≤ nI (sA_len A r) from nI_ge (b := 3) h (by omega))]
def visitOk (A : St) (r : Nat) (y z k : Int32) : Prop := sA_n A = 0 ∧ sA_len A r ≠ 3 ∧ (1 ≤ y ∧ y ≤ 15) ∧ (1 ≤ z ∧ z ≤ 100) ∧ (0 ≤ k ∧ k ≤ 100)
theorem within_n {y lo : Int32} {hi : Int32} {n m : Nat} (h : f_T_isWithin y lo hi = true) (hm : lo.toInt = m) (hn : hi.toInt = n) : ∃ q : Nat, m ≤ q ∧ q ≤ n ∧ y = nI q := by
  obtain ⟨h1, h2⟩ := within_iff.mp h
  rw [Int32.le_iff_toInt_le] at h1 h2
  have h0 : (0 : Int32) ≤ y := by
    rw [Int32.le_iff_toInt_le]
    have : (0 : Int32).toInt = 0 := rfl
    omega
  obtain ⟨j, hj, rfl⟩ := i32_nat h0
  rw [nI_toInt hj] at h1 h2
  exact ⟨j, by omega, by omega, rfl⟩
theorem not_within {y lo hi : Int32} (h : f_T_isWithin y lo hi = false) : ¬ (lo ≤ y ∧ y ≤ hi) := by
  intro hc
  rw [within_iff.mpr hc] at h
  cases h
theorem n_pos {n : Nat} (h : (0 : Int32) < nI n) : ¬ n = 0 := by
  rintro rfl
  exact absurd h (by decide)
theorem n_zero {n : Nat} (h : ¬ (0 : Int32) < nI n) (hn : n < 2 ^ 31) : n = 0 := by
  rcases Nat.eq_zero_or_pos n with h1 | h1
  · exact h1
  · exact absurd (nI_lt (a := 0) h1 hn) h
theorem RC_app {G : Gc} {A : St} {r a b d : Nat} (hC : RC G A) (h0 : sA_n A = 0) : RC G (appA A r a b d) := by
  have hz := hC.2.2.2.2 h0
  refine ⟨fun q hq => ?_, fun i hi => ?_, fun i hi => ?_, MI_zero (fun k hk => (hz k hk).1) (fun k hk => (hz k hk).2), fun _ => hz⟩
  · rw [hC.1 q hq]
    unfold inP
    rw [if_pos hq, if_pos hq]
    exact (occ_congr (A := A) (B := appA A r a b d) (k := sA_n A) (fun j hj => Iff.rfl)).symm
  · have hi : i < sA_n A := hi
    omega
  · have hi : i < sA_n A := hi
    omega
theorem sw6 (x : Int32) : x = 0 ∨ x = 1 ∨ x = 2 ∨ x = 3 ∨ x = 4 ∨ x = 5 ∨ (x.toInt < 0 ∨ 5 < x.toInt) := by
  by_cases h : 0 ≤ x.toInt ∧ x.toInt ≤ 5
  · have h0 : (0 : Int32) ≤ x := by
      rw [Int32.le_iff_toInt_le]
      exact h.1
    obtain ⟨j, hj, rfl⟩ := i32_nat h0
    rw [nI_toInt hj] at h
    rcases (show j = 0 ∨ j = 1 ∨ j = 2 ∨ j = 3 ∨ j = 4 ∨ j = 5 by omega) with rfl | rfl | rfl | rfl | rfl | rfl
    · exact Or.inl rfl
    · exact Or.inr (Or.inl rfl)
    · exact Or.inr (Or.inr (Or.inl rfl))
    · exact Or.inr (Or.inr (Or.inr (Or.inl rfl)))
    · exact Or.inr (Or.inr (Or.inr (Or.inr (Or.inl rfl))))
    · exact Or.inr (Or.inr (Or.inr (Or.inr (Or.inr (Or.inl rfl)))))
  · exact Or.inr (Or.inr (Or.inr (Or.inr (Or.inr (Or.inr (by omega))))))
def countF (A : St) (x : Int32) : Int32 := if x = 0 then nI (sA_n A) else if x = 1 then nI (cnt (fin A) (sA_n A)) else if x = 2 then nI (cnt (sA_la A) (sA_n A)) else if x = 3 then sA_fm A else if x = 4 then sA_bm A else if x = 5 then sA_ck A else -1
theorem countF_out {A : St} {x : Int32} (h : x.toInt < 0 ∨ 5 < x.toInt) : -1 = countF A x := by
  have key : ∀ k : Int32, 0 ≤ k.toInt ∧ k.toInt ≤ 5 → ¬ x = k := by
    rintro k hk rfl
    omega
  unfold countF
  rw [if_neg (key 0 (by decide)), if_neg (key 1 (by decide)), if_neg (key 2 (by decide)), if_neg (key 3 (by decide)), if_neg (key 4 (by decide)), if_neg (key 5 (by decide))]
/-- the state with other times -/
def mk4 (A : St) (f1 : Nat → Nat) (f2 : Nat → Nat) (f3 : Nat → Nat → Int32) (f4 : Nat → Bool) (k : Int32) : St := (A.1, A.2.1, A.2.2.1, A.2.2.2.1, A.2.2.2.2.1, A.2.2.2.2.2.1, A.2.2.2.2.2.2.1, A.2.2.2.2.2.2.2.1, f1, f2, f4, A.2.2.2.2.2.2.2.2.2.2.2.1, A.2.2.2.2.2.2.2.2.2.2.2.2.1, f3, A.2.2.2.2.2.2.2.2.2.2.2.2.2.2.1, k, A.2.2.2.2.2.2.2.2.2.2.2.2.2.2.2.2.1, A.2.2.2.2.2.2.2.2.2.2.2.2.2.2.2.2.2.1, A.2.2.2.2.2.2.2.2.2.2.2.2.2.2.2.2.2.2.1, A.2.2.2.2.2.2.2.2.2.2.2.2.2.2.2.2.2.2.2)
theorem mk4_lf {A : St} {f1 f2 g : Nat → Nat} {f3 : Nat → Nat → Int32} {f4 : Nat → Bool} {k : Int32} : sU_lf (mk4 A f1 f2 f3 f4 k) g = mk4 A g f2 f3 f4 k := rfl
theorem mk4_en {A : St} {f1 f2 : Nat → Nat} {f3 g : Nat → Nat → Int32} {f4 : Nat → Bool} {k : Int32} : sU_en (mk4 A f1 f2 f3 f4 k) g = mk4 A f1 f2 g f4 k := rfl
theorem mk4_la {A : St} {f1 f2 : Nat → Nat} {f3 : Nat → Nat → Int32} {f4 g : Nat → Bool} {k : Int32} : sU_la (mk4 A f1 f2 f3 f4 k) g = mk4 A f1 f2 f3 g k := rfl
theorem mk4_ck {A : St} {f1 f2 : Nat → Nat} {f3 : Nat → Nat → Int32} {f4 : Nat → Bool} {k j : Int32} : sU_ck (mk4 A f1 f2 f3 f4 k) j = mk4 A f1 f2 f3 f4 j := rfl
theorem mk4_sn {A : St} {f1 f2 g : Nat → Nat} {f3 : Nat → Nat → Int32} {f4 : Nat → Bool} {k : Int32} : sU_sn (mk4 A f1 f2 f3 f4 k) g = mk4 A f1 g f3 f4 k := rfl
theorem mk4_id {A : St} : mk4 A (sA_lf A) (sA_sn A) (sA_en A) (sA_la A) (sA_ck A) = A := rfl
theorem cw_mk4 {X : Xt} {G : Gc} {A : St} {f1 f2 g2 : Nat → Nat} {f3 : Nat → Nat → Int32} {f4 : Nat → Bool} {k : Int32} : cw X G (mk4 A f1 f2 f3 f4 k) = cw X G (mk4 A f1 g2 f3 f4 k) := (cw_sn (A := mk4 A f1 f2 f3 f4 k) (f := g2)).symm
def F1 (A : St) (a h i : Nat) : Nat := if sA_pl A i < h then tkLf A a i else sA_lf A i
def F3 (A : St) (a h i : Nat) : Nat → Int32 := if sA_pl A i < h then tkEn A a i else sA_en A i
def F4 (A : St) (a h i : Nat) : Bool := if sA_pl A i < h then tkLa A a i else sA_la A i
def Fw (G : Gc) (A : St) (a h i : Nat) : Int32 := if sA_pl A i < h ∧ act A i = true then gA_wt G i + nI (a - sA_lf A i) else gA_wt G i
theorem F_0 {A : St} {a : Nat} : F1 A a 0 = sA_lf A ∧ F3 A a 0 = sA_en A ∧ F4 A a 0 = sA_la A := ⟨by funext i; simp [F1], by funext i; simp [F3], by funext i; simp [F4]⟩
theorem Fw_0 {G : Gc} {A : St} {a : Nat} : Fw G A a 0 = gA_wt G := by funext i; simp [Fw]
theorem tk_no {A : St} {a i : Nat} (h : act A i = false) : tkLf A a i = sA_lf A i ∧ tkSn A a i = sA_sn A i ∧ tkEn A a i = sA_en A i ∧ tkLa A a i = sA_la A i := by
  refine ⟨?_, ?_, ?_, ?_⟩
  · unfold tkLf; rw [if_neg (by rw [h]; decide)]
  · unfold tkSn; rw [if_neg (by rw [h]; decide)]
  · unfold tkEn; rw [if_neg (by rw [h]; simp)]
  · unfold tkLa; rw [h]; simp
theorem act_iff {A : St} {i : Nat} : act A i = true ↔ i < sA_n A ∧ sA_pl A i < 4 ∧ (sA_dn A).testBit (sA_pl A i) = false := by
  unfold act
  simp [and_assoc]
theorem F_same {G : Gc} {A : St} {a h : Nat} (hno : ∀ i, sA_pl A i = h → act A i = false) : F1 A a (h + 1) = F1 A a h ∧ F3 A a (h + 1) = F3 A a h ∧ F4 A a (h + 1) = F4 A a h ∧ Fw G A a (h + 1) = Fw G A a h := by
  have key : ∀ i, ¬ sA_pl A i < h → sA_pl A i < h + 1 → act A i = false := fun i h1 h2 => hno i (by omega)
  refine ⟨?_, ?_, ?_, ?_⟩
  · funext i
    unfold F1
    by_cases h1 : sA_pl A i < h
    · rw [if_pos h1, if_pos (by omega)]
    · rw [if_neg h1]
      by_cases h2 : sA_pl A i < h + 1
      · rw [if_pos h2, (tk_no (key i h1 h2)).1]
      · rw [if_neg h2]
  · funext i
    unfold F3
    by_cases h1 : sA_pl A i < h
    · rw [if_pos h1, if_pos (by omega)]
    · rw [if_neg h1]
      by_cases h2 : sA_pl A i < h + 1
      · rw [if_pos h2, (tk_no (key i h1 h2)).2.2.1]
      · rw [if_neg h2]
  · funext i
    unfold F4
    by_cases h1 : sA_pl A i < h
    · rw [if_pos h1, if_pos (by omega)]
    · rw [if_neg h1]
      by_cases h2 : sA_pl A i < h + 1
      · rw [if_pos h2, (tk_no (key i h1 h2)).2.2.2]
      · rw [if_neg h2]
  · funext i
    unfold Fw
    by_cases h1 : sA_pl A i < h
    · by_cases ha : act A i = true
      · rw [if_pos (show sA_pl A i < h + 1 ∧ act A i = true from ⟨by omega, ha⟩), if_pos (show sA_pl A i < h ∧ act A i = true from ⟨h1, ha⟩)]
      · rw [if_neg (fun z => ha z.2), if_neg (fun z => ha z.2)]
    · rw [if_neg (show ¬ (sA_pl A i < h ∧ act A i = true) from fun z => h1 z.1), if_neg]
      rintro ⟨h2, h3⟩
      rw [key i h1 h2] at h3
      cases h3
theorem other {A : St} {i j h : Nat} (hI : Inv A) (hi : i < sA_n A) (hp : sA_pl A i = h) (h4 : h < 4) (hne : j ≠ i) (h1 : ¬ sA_pl A j < h) (h2 : sA_pl A j < h + 1) : act A j = false := by
  cases ha : act A j with
  | false => rfl
  | true =>
    obtain ⟨a1, a2, -⟩ := act_iff.mp ha
    exact absurd (hI.2.2.2.1 j i a1 hi (by omega) (by omega)) hne
theorem F_step {G : Gc} {A : St} {a h i : Nat} (hI : Inv A) (ha : act A i = true) (hp : sA_pl A i = h) :
    F1 A a (h + 1) = va_up (F1 A a h) i (sA_lf A i - min (sA_lf A i) a) ∧ F3 A a (h + 1) = va_up (F3 A a h) i (tkEn A a i) ∧ F4 A a (h + 1) = va_up (F4 A a h) i (tkLa A a i) ∧ Fw G A a (h + 1) = va_up (Fw G A a h) i (gA_wt G i + nI (a - min (sA_lf A i) a)) := by
  obtain ⟨hi, h4, -⟩ := act_iff.mp ha
  rw [hp] at h4
  refine ⟨?_, ?_, ?_, ?_⟩
  · funext j
    by_cases e : j = i
    · subst e
      rw [va_up_self]
      unfold F1 tkLf
      rw [if_pos (by omega), if_pos ha]
      omega
    · rw [va_up_ne _ _ e]
      unfold F1
      by_cases h1 : sA_pl A j < h
      · rw [if_pos h1, if_pos (by omega)]
      · rw [if_neg h1]
        by_cases h2 : sA_pl A j < h + 1
        · rw [if_pos h2, (tk_no (other hI hi hp h4 e h1 h2)).1]
        · rw [if_neg h2]
  · funext j
    by_cases e : j = i
    · subst e
      rw [va_up_self]
      unfold F3
      rw [if_pos (by omega)]
    · rw [va_up_ne _ _ e]
      unfold F3
      by_cases h1 : sA_pl A j < h
      · rw [if_pos h1, if_pos (by omega)]
      · rw [if_neg h1]
        by_cases h2 : sA_pl A j < h + 1
        · rw [if_pos h2, (tk_no (other hI hi hp h4 e h1 h2)).2.2.1]
        · rw [if_neg h2]
  · funext j
    by_cases e : j = i
    · subst e
      rw [va_up_self]
      unfold F4
      rw [if_pos (by omega)]
    · rw [va_up_ne _ _ e]
      unfold F4
      by_cases h1 : sA_pl A j < h
      · rw [if_pos h1, if_pos (by omega)]
      · rw [if_neg h1]
        by_cases h2 : sA_pl A j < h + 1
        · rw [if_pos h2, (tk_no (other hI hi hp h4 e h1 h2)).2.2.2]
        · rw [if_neg h2]
  · funext j
    by_cases e : j = i
    · subst e
      rw [va_up_self]
      unfold Fw
      rw [if_pos ⟨by omega, ha⟩]
      congr 2
      omega
    · rw [va_up_ne _ _ e]
      unfold Fw
      by_cases h1 : sA_pl A j < h
      · by_cases hb : act A j = true
        · rw [if_pos (show sA_pl A j < h + 1 ∧ act A j = true from ⟨by omega, hb⟩), if_pos (show sA_pl A j < h ∧ act A j = true from ⟨h1, hb⟩)]
        · rw [if_neg (fun z => hb z.2), if_neg (fun z => hb z.2)]
      · rw [if_neg (show ¬ (sA_pl A j < h ∧ act A j = true) from fun z => h1 z.1), if_neg]
        rintro ⟨h2, h3⟩
        rw [other hI hi hp h4 e h1 h2] at h3
        cases h3
/-- becomes late in these ticks -/
def frA (A : St) (a i : Nat) : Bool := tkLa A a i && !(sA_la A i)
theorem spend_eq {G : Gc} {A : St} {a h i : Nat} (hI : Inv A) (ha : act A i = true) (hp : sA_pl A i = h) (ha2 : a ≤ 200) :
    g_W_spend (gU_wt G (Fw G A a h)) (mk4 A (F1 A a h) (sA_sn A) (F3 A a h) (F4 A a h) (sA_ck A)) i a (sA_ck A) = (gU_wt G (Fw G A a (h + 1)), mk4 A (F1 A a (h + 1)) (sA_sn A) (F3 A a (h + 1)) (F4 A a h) (sA_ck A)) := by
  obtain ⟨e1, e3, -, ew⟩ := F_step (G := G) (a := a) hI ha hp
  obtain ⟨hi, h4, -⟩ := act_iff.mp ha
  obtain ⟨w1, w2, w3, w4, w5, w6, -⟩ := hI.2.2.1 i hi
  have hg := w5 h4
  have l1 : F1 A a h i = sA_lf A i := by unfold F1; rw [if_neg (by omega)]
  have l3 : F3 A a h i = sA_en A i := by unfold F3; rw [if_neg (by omega)]
  have lw : Fw G A a h i = gA_wt G i := by unfold Fw; rw [if_neg (by omega)]
  have hG : gU_wt (gU_wt G (Fw G A a h)) (va_up (Fw G A a h) i (Fw G A a h i + nI (a - min (F1 A a h i) a))) = gU_wt G (Fw G A a (h + 1)) := by
    rw [ew, l1, lw]
  have hA0 : tkEn A a i = F3 A a h i → sU_lf (mk4 A (F1 A a h) (sA_sn A) (F3 A a h) (F4 A a h) (sA_ck A)) (va_up (F1 A a h) i (F1 A a h i - min (F1 A a h i) a)) = mk4 A (F1 A a (h + 1)) (sA_sn A) (F3 A a (h + 1)) (F4 A a h) (sA_ck A) := by
    intro hen
    have : va_up (F3 A a h) i (tkEn A a i) = F3 A a h := by
      rw [hen]
      funext j
      unfold va_up
      split
      · next e => rw [e]
      · rfl
    rw [mk4_lf, e1, e3, this, l1]
  unfold g_W_spend
  have L1 : sA_lf (mk4 A (F1 A a h) (sA_sn A) (F3 A a h) (F4 A a h) (sA_ck A)) i = F1 A a h i := rfl
  have LS : sA_sg (mk4 A (F1 A a h) (sA_sn A) (F3 A a h) (F4 A a h) (sA_ck A)) i = sA_sg A i := rfl
  rw [L1, LS]
  by_cases c1 : nI (min (F1 A a h i) a) ≤ 0
  · rw [if_pos c1]
    have z := lf_0 c1 (by omega)
    refine Prod.ext hG (hA0 ?_)
    rw [l3]
    unfold tkEn
    rw [if_neg]
    rintro ⟨-, p1, p2⟩
    rw [l1] at z
    omega
  · rw [if_neg c1]
    have z := lf_pos c1
    by_cases c2 : nI (min (F1 A a h i) a) = nI (F1 A a h i)
    · rw [if_pos c2, if_neg (show ¬ nI (sA_sg A i) ≤ (0 : Int32) from nI_nle hg (by have := hI.2.1.1 (sA_rt A i); omega))]
      have c3 := (nI_eq (by omega) (by rw [l1]; omega)).mp c2
      refine Prod.ext hG ?_
      have hen : tkEn A a i = upd (sA_en A i) (sA_sg A i - 1) (sA_ck A + nI (min (F1 A a h i) a)) := by
        unfold tkEn
        rw [l1] at c3 z
        rw [if_pos ⟨ha, by omega, by omega⟩, l1, c3]
      show sU_lf (sU_en (mk4 A (F1 A a h) (sA_sn A) (F3 A a h) (F4 A a h) (sA_ck A)) (va_up (F3 A a h) i (upd (F3 A a h i) (sA_sg A i - 1) (sA_ck A + nI (min (F1 A a h i) a))))) (va_up (F1 A a h) i (F1 A a h i - min (F1 A a h i) a)) = _
      rw [mk4_en, mk4_lf, l3, ← hen, ← e3, l1, ← e1]
    · rw [if_neg c2]
      refine Prod.ext hG (hA0 ?_)
      rw [l3]
      unfold tkEn
      rw [if_neg]
      rintro ⟨-, p1, p2⟩
      apply c2
      rw [l1]
      congr 1
      omega
theorem turn_eq {G : Gc} {A : St} {a h i : Nat} (hI : Inv A) (hC : RC G A) (hB : snB A) (ha : act A i = true) (hp : sA_pl A i = h) (ha2 : a ≤ 200) :
    f_W_turnsLate (gU_wt G (Fw G A a (h + 1))) (mk4 A (F1 A a (h + 1)) (sA_sn A) (F3 A a (h + 1)) (F4 A a h) (sA_ck A)) i (nI (lmt A i)) = frA A a i ∧
    g_W_turnsLate (gU_wt G (Fw G A a (h + 1))) (mk4 A (F1 A a (h + 1)) (sA_sn A) (F3 A a (h + 1)) (F4 A a h) (sA_ck A)) i (nI (lmt A i)) = (gU_wt G (Fw G A a (h + 1)), mk4 A (F1 A a (h + 1)) (sA_sn A) (F3 A a (h + 1)) (F4 A a (h + 1)) (sA_ck A)) := by
  obtain ⟨-, -, e4, ew⟩ := F_step (G := G) (a := a) hI ha hp
  obtain ⟨hi, h4, -⟩ := act_iff.mp ha
  obtain ⟨w1, w2, w3, w4, -⟩ := hI.2.2.1 i hi
  have hlm := lmt_le hI hi h4
  have hb := hB i hi
  have l4 : F4 A a h i = sA_la A i := by unfold F4; rw [if_neg (by omega)]
  have lw : Fw G A a (h + 1) i = nI (tkSn A a i) := by
    rw [ew, va_up_self, hC.2.2.1 i hi h4, nI_add]
    unfold tkSn
    rw [if_pos ha]
    congr 1
    omega
  have hsn : tkSn A a i < 2 ^ 21 := by
    unfold tkSn
    split <;> omega
  have hsame : frA A a i = false → va_up (F4 A a h) i (tkLa A a i) = F4 A a h := by
    intro hf
    have : tkLa A a i = F4 A a h i := by
      rw [l4]
      unfold frA at hf
      unfold tkLa at hf ⊢
      revert hf
      cases sA_la A i <;> simp
    rw [this]
    funext j
    unfold va_up
    split
    · next e => rw [e]
    · rfl
  have hset : frA A a i = true → va_up (F4 A a h) i true = va_up (F4 A a h) i (tkLa A a i) := by
    intro hf
    unfold frA at hf
    simp at hf
    rw [hf.1]
  have FR : frA A a i = (!(sA_la A i) && (decide (0 < lmt A i) && decide (lmt A i < tkSn A a i))) := by
    unfold frA tkLa
    rw [ha]
    cases sA_la A i <;> simp
  rw [e4]
  unfold f_W_turnsLate g_W_turnsLate
  have L4 : sA_la (mk4 A (F1 A a (h + 1)) (sA_sn A) (F3 A a (h + 1)) (F4 A a h) (sA_ck A)) i = sA_la A i := l4
  have LW : gA_wt (gU_wt G (Fw G A a (h + 1))) i = nI (tkSn A a i) := lw
  have LA : sA_la (mk4 A (F1 A a (h + 1)) (sA_sn A) (F3 A a (h + 1)) (F4 A a h) (sA_ck A)) = F4 A a h := rfl
  rw [L4, LW, mk4_la, LA]
  cases hla : sA_la A i with
  | true =>
    have hf : frA A a i = false := by rw [FR, hla]; rfl
    rw [if_pos rfl, if_pos rfl, hf, hsame hf]
    exact ⟨rfl, rfl⟩
  | false =>
    simp only [Bool.false_eq_true, if_false]
    by_cases c1 : lmt A i = 0
    · have hf : frA A a i = false := by rw [FR, c1]; simp
      rw [if_pos (show nI (lmt A i) = (0 : Int32) by rw [c1]; rfl), if_pos (show nI (lmt A i) = (0 : Int32) by rw [c1]; rfl), hf, hsame hf]
      exact ⟨rfl, rfl⟩
    · rw [if_neg (show ¬ nI (lmt A i) = (0 : Int32) from nI_ne (b := 0) c1 (by omega) (by omega)), if_neg (show ¬ nI (lmt A i) = (0 : Int32) from nI_ne (b := 0) c1 (by omega) (by omega))]
      by_cases c2 : lmt A i < tkSn A a i
      · have hf : frA A a i = true := by rw [FR, hla]; simp; omega
        rw [if_pos (nI_lt c2 (by omega)), if_pos (nI_lt c2 (by omega)), hf, ← hset hf]
        exact ⟨rfl, rfl⟩
      · have hf : frA A a i = false := by rw [FR, hla]; simp; omega
        rw [if_neg (nI_nlt (by omega) (by omega)), if_neg (nI_nlt (by omega) (by omega)), hf, hsame hf]
        exact ⟨rfl, rfl⟩
/-- how many became late in the chambers below h -/
def cntT (A : St) (a h : Nat) : Nat := cnt (fun i => F4 A a h i && !(sA_la A i)) (sA_n A)
theorem cntT_same {G : Gc} {A : St} {a h : Nat} (hno : ∀ i, sA_pl A i = h → act A i = false) : cntT A a (h + 1) = cntT A a h := by
  unfold cntT
  rw [(F_same (G := G) (a := a) hno).2.2.1]
theorem cntT_step {G : Gc} {A : St} {a h i : Nat} (hI : Inv A) (ha : act A i = true) (hp : sA_pl A i = h) : cntT A a (h + 1) = cntT A a h + (if frA A a i = true then 1 else 0) := by
  obtain ⟨-, -, e4, -⟩ := F_step (G := G) (a := a) hI ha hp
  obtain ⟨hi, -⟩ := act_iff.mp ha
  have l4 : F4 A a h i = sA_la A i := by unfold F4; rw [if_neg (by omega)]
  unfold cntT
  rw [e4, cnt_up (f := fun i => F4 A a h i && !(sA_la A i)) (g := fun j => va_up (F4 A a h) i (tkLa A a i) j && !(sA_la A j)) hi (fun j hj hne => by rw [va_up_ne _ _ hne]) (by rw [l4]; cases sA_la A i <;> rfl)]
  rw [va_up_self]
  rfl
theorem F_4 {G : Gc} {A : St} {a : Nat} : F1 A a 4 = tkLf A a ∧ F3 A a 4 = tkEn A a ∧ F4 A a 4 = tkLa A a := by
  have key : ∀ i, ¬ sA_pl A i < 4 → act A i = false := by
    intro i h
    cases ha : act A i with
    | false => rfl
    | true => exact absurd (act_iff.mp ha).2.1 h
  refine ⟨?_, ?_, ?_⟩
  · funext i
    unfold F1
    by_cases h : sA_pl A i < 4
    · rw [if_pos h]
    · rw [if_neg h, (tk_no (key i h)).1]
  · funext i
    unfold F3
    by_cases h : sA_pl A i < 4
    · rw [if_pos h]
    · rw [if_neg h, (tk_no (key i h)).2.2.1]
  · funext i
    unfold F4
    by_cases h : sA_pl A i < 4
    · rw [if_pos h]
    · rw [if_neg h, (tk_no (key i h)).2.2.2]
def tickT (A : St) (a : Nat) : St := mk4 A (tkLf A a) (tkSn A a) (tkEn A a) (tkLa A a) (sA_ck A + nI a)
def tickF (A : St) (a : Nat) : St := if 0 < a then sU_bb (sU_fb (tickT A a) false) false else tickT A a
def tickI (A : St) (x : Int32) : Int32 := if 0 ≤ x ∧ x ≤ 200 then nI (becF A x.toNatClampNeg) else -1
def tickS (A : St) (x : Int32) : St := if 0 ≤ x ∧ x ≤ 200 then tickF A x.toNatClampNeg else A
theorem tick_at {A : St} {a : Nat} (h : a ≤ 200) : tickI A (nI a) = nI (becF A a) ∧ tickS A (nI a) = tickF A a := by
  unfold tickI tickS
  have hc : (0 : Int32) ≤ nI a ∧ nI a ≤ 200 := ⟨nI_pos' (by omega), nI_le (b := 200) h (by omega)⟩
  rw [if_pos hc, if_pos hc, nI_clamp (by omega)]
  exact ⟨rfl, rfl⟩
theorem tick_bad {A : St} {x : Int32} (h : f_T_isWithin x 0 200 = false) : tickI A x = -1 ∧ tickS A x = A := by
  unfold tickI tickS
  rw [if_neg (not_within h), if_neg (not_within h)]
  exact ⟨rfl, rfl⟩
theorem RC_tick {G : Gc} {A B : St} {a : Nat} (hC : RC G A) (hs : sA_n B = sA_n A ∧ sA_pl B = sA_pl A ∧ sA_sg B = sA_sg A ∧ sA_rt B = sA_rt A ∧ envA B = envA A ∧ sA_sn B = tkSn A a) : RC (gU_wt G (Fw G A a 4)) B := by
  obtain ⟨s1, s2, s3, s4, s5, s6⟩ := hs
  have s7 : sA_len B = sA_len A := congrArg (fun z => z.1) s5
  refine ⟨fun q hq => ?_, fun i hi => ?_, fun i hi h4 => ?_, ?_, fun z => hC.2.2.2.2 (by omega)⟩
  · rw [show gA_ins (gU_wt G (Fw G A a 4)) q = gA_ins G q from rfl, hC.1 q hq]
    unfold inP
    rw [if_pos hq, if_pos hq, s1]
    exact (occ_congr (fun j hj => by rw [s2])).symm
  · rw [s1] at hi
    rw [show gA_fi (gU_wt G (Fw G A a 4)) i = gA_fi G i from rfl, hC.2.1 i hi]
    unfold fin
    rw [s2, s3, s4, s7]
  · rw [s1] at hi
    rw [s2] at h4
    show Fw G A a 4 i = nI (sA_sn B i)
    rw [s6]
    unfold Fw tkSn
    by_cases ha : act A i = true
    · rw [if_pos ⟨h4, ha⟩, if_pos ha, hC.2.2.1 i hi h4, nI_add]
    · rw [if_neg (fun z => ha z.2), if_neg ha, hC.2.2.1 i hi h4]
  · rw [s5]
    exact hC.2.2.2.1
theorem bec_4 {A : St} {a : Nat} : cntT A a 4 = becF A a := by
  unfold cntT becF
  rw [(F_4 (G := (fun _ => 0, fun _ => 0, fun _ => false, fun _ => 0, fun _ => 0, fun _ => 0)) (A := A) (a := a)).2.2]

/-! What ticks do. Own work. -/
def act (A : St) (i : Nat) : Bool := decide (i < sA_n A) && decide (sA_pl A i < 4) && !((sA_dn A).testBit (sA_pl A i))
def lmt (A : St) (i : Nat) : Nat := sA_lm A (sA_rt A i) (sA_sg A i - 1)
def tkLf (A : St) (t i : Nat) : Nat := if act A i = true then sA_lf A i - t else sA_lf A i
def tkSn (A : St) (t i : Nat) : Nat := if act A i = true then sA_sn A i + (t - sA_lf A i) else sA_sn A i
def tkEn (A : St) (t i : Nat) : Nat → Int32 := if act A i = true ∧ 0 < sA_lf A i ∧ sA_lf A i ≤ t then upd (sA_en A i) (sA_sg A i - 1) (sA_ck A + nI (sA_lf A i)) else sA_en A i
def tkLa (A : St) (t i : Nat) : Bool := sA_la A i || (act A i && decide (0 < lmt A i) && decide (lmt A i < tkSn A t i))
/-- wafers that m says have gone through t' ticks, the others through t -/
def mix (A : St) (m : Nat → Bool) (t' t : Nat) (k : Int32) : St :=
  sU_ck (sU_la (sU_en (sU_sn (sU_lf A (fun i => if m i = true then tkLf A t' i else tkLf A t i)) (fun i => if m i = true then tkSn A t' i else tkSn A t i)) (fun i => if m i = true then tkEn A t' i else tkEn A t i)) (fun i => if m i = true then tkLa A t' i else tkLa A t i)) k
def tickA (A : St) (t : Nat) : St := mix A (fun _ => true) t t (sA_ck A + nI t)
/-- how many of the first k -/
def cnt (f : Nat → Bool) : Nat → Nat
  | 0 => 0
  | k + 1 => cnt f k + (if f k = true then 1 else 0)
theorem cnt_congr {f g : Nat → Bool} : ∀ {k : Nat}, (∀ i, i < k → f i = g i) → cnt f k = cnt g k
  | 0, _ => rfl
  | k + 1, h => by
    unfold cnt
    rw [h k (by omega), cnt_congr (fun i hi => h i (by omega))]
/-- one place is changed -/
theorem cnt_up {f g : Nat → Bool} {j : Nat} : ∀ {k : Nat}, j < k → (∀ i, i < k → i ≠ j → f i = g i) → f j = false → cnt g k = cnt f k + (if g j = true then 1 else 0)
  | 0, h, _, _ => by omega
  | k + 1, h, hfg, hj => by
    unfold cnt
    by_cases e : k = j
    · subst e
      rw [hj, cnt_congr (f := g) (g := f) (fun i hi => (hfg i (by omega) (by omega)).symm)]
      simp
    · rw [cnt_up (f := f) (g := g) (j := j) (by omega) (fun i hi hne => hfg i (by omega) hne) hj, hfg k (by omega) e]
      omega
def becF (A : St) (t : Nat) : Nat := cnt (fun i => tkLa A t i && !(sA_la A i)) (sA_n A)
theorem cnt_le (f : Nat → Bool) : ∀ k, cnt f k ≤ k
  | 0 => Nat.le_refl _
  | k + 1 => by
    unfold cnt
    have := cnt_le f k
    split <;> omega
theorem tk_0 {A : St} (h : Inv A) : tkLf A 0 = sA_lf A ∧ tkSn A 0 = sA_sn A ∧ tkEn A 0 = sA_en A ∧ tkLa A 0 = sA_la A := by
  refine ⟨?_, ?_, ?_, ?_⟩
  · funext i
    unfold tkLf
    split <;> omega
  · funext i
    unfold tkSn
    split <;> omega
  · funext i
    unfold tkEn
    rw [if_neg (by omega)]
  · funext i
    unfold tkLa
    cases hl : sA_la A i with
    | true => rfl
    | false =>
      cases ha : act A i with
      | false => rfl
      | true =>
        have hi : i < sA_n A ∧ sA_pl A i < 4 := by
          unfold act at ha
          simp at ha
          exact ha.1
        have hw := (h.2.2.1 i hi.1).2.2.2.2.2.2 hi.2 hl
        have hs : tkSn A 0 i = sA_sn A i := by
          unfold tkSn
          split <;> omega
        rw [hs]
        unfold lmt
        simp
        omega

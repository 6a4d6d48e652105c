/-! What class and reference share: the invariant, and the answers. Own work. -/
def envA (A : St) : En := (sA_len A, sA_mk A, sA_dn A)
def fresh (A : St) (i : Nat) : Prop := sA_rt A i = 0 ∧ sA_pl A i = 0 ∧ sA_sg A i = 0 ∧ sA_lf A i = 0 ∧ sA_sn A i = 0 ∧ sA_la A i = false ∧ sA_ch A i = (fun _ => 0) ∧ sA_be A i = (fun _ => 0) ∧ sA_en A i = (fun _ => 0)
/-- a wafer as it may be -/
def wOk (A : St) (i : Nat) : Prop := sA_rt A i < 2 ∧ sA_sg A i ≤ sA_len A (sA_rt A i) ∧ sA_pl A i ≤ 5 ∧ sA_lf A i ≤ 100 ∧ (sA_pl A i < 4 → 1 ≤ sA_sg A i) ∧ (0 < sA_lf A i → sA_pl A i < 4 ∧ sA_en A i (sA_sg A i - 1) = -1) ∧
  (sA_pl A i < 4 → sA_la A i = false → sA_lm A (sA_rt A i) (sA_sg A i - 1) = 0 ∨ sA_sn A i ≤ sA_lm A (sA_rt A i) (sA_sg A i - 1))
def rOk (A : St) : Prop := (∀ r, sA_len A r ≤ 3) ∧ (∀ r i, i < sA_len A r → 1 ≤ sA_mk A r i ∧ sA_mk A r i < 16 ∧ 1 ≤ sA_tm A r i ∧ sA_tm A r i ≤ 100 ∧ sA_lm A r i ≤ 100) ∧ sA_dn A < 16
def uniq (A : St) : Prop := ∀ i j, i < sA_n A → j < sA_n A → sA_pl A i = sA_pl A j → sA_pl A i < 5 → i = j
def Inv (A : St) : Prop := sA_n A ≤ 25 ∧ rOk A ∧ (∀ i, i < sA_n A → wOk A i) ∧ uniq A ∧ ∀ i, sA_n A ≤ i → fresh A i
theorem env_ok {A : St} (h : rOk A) : e_ok (envA A) := ⟨h.1, fun r i hi => ⟨(h.2.1 r i hi).1, (h.2.1 r i hi).2.1⟩, h.2.2⟩
/-- which wafer, which place a number names -/
def widx (A : St) (x : Int32) : Option Nat := if 0 ≤ x ∧ x < nI (sA_n A) then some x.toNatClampNeg else none
def pidx (y : Int32) : Option Nat := if 0 ≤ y ∧ y ≤ 5 then some y.toNatClampNeg else none
theorem i32_nat {x : Int32} (h : 0 ≤ x) : ∃ j : Nat, j < 2 ^ 31 ∧ x = nI j := nI_of (by
  intro h2
  rw [Int32.lt_iff_toInt_lt] at h2
  rw [Int32.le_iff_toInt_le] at h
  omega)
theorem widx_some {A : St} {x : Int32} {i : Nat} (h : widx A x = some i) (hn : sA_n A ≤ 25) : i < sA_n A ∧ x = nI i := by
  unfold widx at h
  split at h
  · next hc =>
    obtain ⟨j, hj, rfl⟩ := i32_nat hc.1
    rw [nI_clamp hj] at h
    cases h
    exact ⟨(nI_ltI hj (by omega)).mp hc.2, rfl⟩
  · cases h
theorem widx_nI {A : St} {i : Nat} (hi : i < sA_n A) (hn : sA_n A ≤ 25) : widx A (nI i) = some i := by
  unfold widx
  rw [if_pos ⟨nI_pos' (by omega), nI_lt hi (by omega)⟩, nI_clamp (by omega)]
theorem pidx_some {y : Int32} {q : Nat} (h : pidx y = some q) : q < 6 ∧ y = nI q := by
  unfold pidx at h
  split at h
  · next hc =>
    obtain ⟨j, hj, rfl⟩ := i32_nat hc.1
    rw [nI_clamp hj] at h
    cases h
    have := (nI_leI (a := q) (b := 5) hj (by omega)).mp hc.2
    exact ⟨by omega, rfl⟩
  · cases h
theorem pidx_nI {q : Nat} (hq : q < 6) : pidx (nI q) = some q := by
  unfold pidx
  rw [if_pos ⟨nI_pos' (by omega), nI_le (a := q) (b := 5) (by omega) (by omega)⟩, nI_clamp (by omega)]
/-- who is in a place, of the first k wafers -/
def occ (A : St) (p : Nat) : Nat → Int32
  | 0 => -1
  | k + 1 => if sA_pl A k = p then nI k else occ A p k
def inP (A : St) (p : Nat) : Int32 := if p < 5 then occ A p (sA_n A) else -1
theorem occ_none {A : St} {p : Nat} : ∀ {k : Nat}, (∀ i, i < k → sA_pl A i ≠ p) → occ A p k = -1
  | 0, _ => rfl
  | k + 1, h => by
    unfold occ
    rw [if_neg (h k (by omega))]
    exact occ_none (fun i hi => h i (by omega))
theorem occ_some {A : St} {p i : Nat} (hp : sA_pl A i = p) : ∀ {k : Nat}, i < k → (∀ j, j < k → sA_pl A j = p → j = i) → occ A p k = nI i
  | 0, h, _ => by omega
  | k + 1, h, hu => by
    unfold occ
    by_cases hk : sA_pl A k = p
    · rw [if_pos hk, hu k (by omega) hk]
    · rw [if_neg hk]
      have : i ≠ k := fun e => hk (e ▸ hp)
      exact occ_some hp (by omega) (fun j hj => hu j (by omega))
theorem inP_cases {A : St} {p : Nat} (hu : uniq A) (hp : p < 5) : (inP A p = -1 ∧ ∀ i, i < sA_n A → sA_pl A i ≠ p) ∨ ∃ i, i < sA_n A ∧ sA_pl A i = p ∧ inP A p = nI i := by
  unfold inP
  rw [if_pos hp]
  by_cases h : ∃ i, i < sA_n A ∧ sA_pl A i = p
  · obtain ⟨i, hi, hpi⟩ := h
    exact Or.inr ⟨i, hi, hpi, occ_some hpi hi (fun j hj hpj => hu j i hj hi (hpj.trans hpi.symm) (by omega))⟩
  · refine Or.inl ⟨occ_none (fun i hi hpi => h ⟨i, hi, hpi⟩), fun i hi hpi => h ⟨i, hi, hpi⟩⟩
theorem inP_at {A : St} {i : Nat} (hu : uniq A) (hi : i < sA_n A) (hp : sA_pl A i < 5) : inP A (sA_pl A i) = nI i := by
  unfold inP
  rw [if_pos hp]
  exact occ_some rfl hi (fun j hj hpj => hu j i hj hi hpj (by omega))
/-- the digit of a wafer; the situation as digits -/
def dgt (A : St) (i : Nat) : Nat := 1 + 4 * sA_rt A i + sA_sg A i
def sitK (A : St) : Nat → Nat → Nat
  | 0, _ => 0
  | k + 1, p => if sA_pl A k = p ∧ p < 5 then dgt A k else sitK A k p
def sit9 (A : St) : Nat → Nat := sitK A (sA_n A)
theorem sitK_5 {A : St} {p : Nat} (hp : ¬ p < 5) : ∀ k, sitK A k p = 0
  | 0 => rfl
  | k + 1 => by
    unfold sitK
    rw [if_neg (fun h => hp h.2)]
    exact sitK_5 hp k
theorem sitK_none {A : St} {p : Nat} : ∀ {k : Nat}, (∀ i, i < k → sA_pl A i ≠ p) → sitK A k p = 0
  | 0, _ => rfl
  | k + 1, h => by
    unfold sitK
    rw [if_neg (fun z => h k (by omega) z.1)]
    exact sitK_none (fun i hi => h i (by omega))
theorem sitK_some {A : St} {p i : Nat} (hp : sA_pl A i = p) (h5 : p < 5) : ∀ {k : Nat}, i < k → (∀ j, j < k → sA_pl A j = p → j = i) → sitK A k p = dgt A i
  | 0, h, _ => by omega
  | k + 1, h, hu => by
    unfold sitK
    by_cases hk : sA_pl A k = p
    · rw [if_pos ⟨hk, h5⟩, hu k (by omega) hk]
    · rw [if_neg (fun z => hk z.1)]
      have : i ≠ k := fun e => hk (e ▸ hp)
      exact sitK_some hp h5 (by omega) (fun j hj => hu j (by omega))
theorem sit9_cases {A : St} {p : Nat} (hu : uniq A) (hp : p < 5) : (sit9 A p = 0 ∧ inP A p = -1) ∨ ∃ i, i < sA_n A ∧ sA_pl A i = p ∧ sit9 A p = dgt A i ∧ inP A p = nI i := by
  rcases inP_cases hu hp with ⟨h1, h2⟩ | ⟨i, hi, hpi, h⟩
  · exact Or.inl ⟨sitK_none h2, h1⟩
  · exact Or.inr ⟨i, hi, hpi, sitK_some hpi hp hi (fun j hj hpj => hu j i hj hi (hpj.trans hpi.symm) (by omega)), h⟩
theorem ok9_sit {A : St} (h : Inv A) : ok9 (envA A) (sit9 A) := by
  obtain ⟨-, hr, hw, hu, -⟩ := h
  intro p hp
  rcases sit9_cases hu hp with ⟨h1, -⟩ | ⟨i, hi, hpi, h1, -⟩
  · rw [h1]
    exact ⟨by omega, fun z => absurd rfl z⟩
  · rw [h1]
    obtain ⟨w1, w2, w3, w4, w5, -⟩ := hw i hi
    have hl := hr.1 (sA_rt A i)
    unfold dgt
    refine ⟨by omega, fun _ => ?_⟩
    have e1 : (1 + 4 * sA_rt A i + sA_sg A i - 1) / 4 = sA_rt A i := by omega
    have e2 : (1 + 4 * sA_rt A i + sA_sg A i - 1) % 4 = sA_sg A i := by omega
    rw [e1, e2]
    exact ⟨w2, fun h4 => w5 (by omega)⟩
/-- the situation behind a move of wafer i to q -/
def sitAft (A : St) (i q : Nat) : Nat → Nat :=
  let S := if sA_pl A i < 5 then va_up (sit9 A) (sA_pl A i) 0 else sit9 A
  if q = 5 then S else va_up S q (if q < 4 then dgt A i + 1 else dgt A i)
def safeF (A : St) : Bool := canE (envA A) (toS (envA A) (sit9 A))
def busyF (A : St) (p q : Nat) : Bool := if backN p || backN q then sA_bb A else sA_fb A
def fin (A : St) (i : Nat) : Bool := sA_pl A i == 5 && sA_sg A i == sA_len A (sA_rt A i)
def mayN (A : St) (i q : Nat) : Int32 :=
  if 0 < sA_lf A i ∨ fin A i = true then 1
  else if leadN (sA_dn A) (mskN (envA A) (sA_rt A i) (sA_sg A i)) (sA_pl A i) q = false then 2
  else if q ≠ sA_pl A i ∧ inP A q ≠ -1 then 3
  else if canE (envA A) (toS (envA A) (sitAft A i q)) = false then 4
  else if busyF A (sA_pl A i) q = true then 5 else 0
def mayF (A : St) (x y : Int32) : Int32 := oc (widx A x) (-1) (fun i => oc (pidx y) (-1) (fun q => mayN A i q))

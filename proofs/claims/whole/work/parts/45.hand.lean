/-! A move. Own work. -/
theorem timeAt_nI {A : St} {r g : Nat} (hR : rOk A) (hg : g < sA_len A r) : f_U_timeAt A r (nI g) = nI (sA_tm A r g) := by
  have := hR.1 r
  unfold f_U_timeAt
  rw [has_nI hR (by omega), nI_clamp (by omega), if_pos (by simp [hg])]
def robA (A : St) (b : Bool) : St := if b = true then sU_bm (sU_bb A true) (sA_bm A + 1) else sU_fm (sU_fb A true) (sA_fm A + 1)
def begA0 (B : St) (i q : Nat) : St := sU_sg (sU_lf (sU_en (sU_be (sU_ch B (va_up (sA_ch B) i (upd (sA_ch B i) (sA_sg B i) (nI q)))) (va_up (sA_be B) i (upd (sA_be B i) (sA_sg B i) (sA_ck B)))) (va_up (sA_en B) i (upd (sA_en B i) (sA_sg B i) (-1)))) (va_up (sA_lf B) i (sA_tm B (sA_rt B i) (sA_sg B i)))) (va_up (sA_sg B) i (sA_sg B i + 1))
def begA (B : St) (i q : Nat) : St := sU_sn (begA0 B i q) (va_up (sA_sn B) i 0)
def plB (B : St) (i q : Nat) : St := sU_pl B (va_up (sA_pl B) i q)
def mvA (B : St) (i q : Nat) : St := if q < 4 then begA (plB B i q) i q else plB B i q
def robB (A : St) (i q : Nat) : St := robA A (backN (sA_pl A i) || backN q)
def moveA (A : St) (i q : Nat) : St := mvA (robB A i q) i q
def ins1 (f : Nat → Int32) (k : Nat) : Nat → Int32 := if k = 5 then f else upd f k (-1)
def ins2 (f : Nat → Int32) (q i : Nat) : Nat → Int32 := if q = 5 then f else upd f q (nI i)
def arrG (G : Gc) (i q : Nat) : Gc := gU_fi (gU_wt G (va_up (gA_wt G) i 0)) (va_up (gA_fi G) i (decide (q = 5)))
def carG (G : Gc) (k i q : Nat) : Gc := arrG (gU_ins G (ins2 (ins1 (gA_ins G) k) q i)) i q
theorem robA_f (A : St) (b : Bool) : sA_n (robA A b) = sA_n A ∧ sA_pl (robA A b) = sA_pl A ∧ sA_sg (robA A b) = sA_sg A ∧ sA_rt (robA A b) = sA_rt A ∧ sA_len (robA A b) = sA_len A ∧ sA_tm (robA A b) = sA_tm A ∧ sA_lf (robA A b) = sA_lf A ∧ sA_mk (robA A b) = sA_mk A ∧ sA_dn (robA A b) = sA_dn A ∧ sA_lm (robA A b) = sA_lm A := by
  cases b <;> exact ⟨rfl, rfl, rfl, rfl, rfl, rfl, rfl, rfl, rfl, rfl⟩
theorem arrive_eq {G : Gc} {A : St} {i q : Nat} (hq : q < 6) : g_W_arrive G A i q = (arrG G i q, plB A i q) := by
  unfold g_W_arrive arrG plB
  by_cases h : q = 5
  · subst h
    rw [if_pos (show nI 5 = (5 : Int32) from rfl)]
    rfl
  · rw [if_neg (show ¬ nI q = (5 : Int32) from nI_ne (b := 5) h (by omega) (by omega))]
    simp [h]
theorem cw_sn {X : Xt} {G : Gc} {A : St} {f : Nat → Nat} : cw X G (sU_sn A f) = cw X G A := rfl
theorem cw_beg {X : Xt} {G : Gc} {B : St} {i q : Nat} : cw X G (begA0 B i q) = cw X G (begA B i q) := (cw_sn (A := begA0 B i q)).symm
theorem begin_eq {G : Gc} {B : St} {i q : Nat} (hg : sA_sg B i < 3) (hp : sA_pl B i = q) : g_W_begin G B i (sA_tm B (sA_rt B i) (sA_sg B i)) (sA_ck B) = (G, begA0 B i q) := by
  unfold g_W_begin begA0
  rw [if_neg (show ¬ (3 : Int32) ≤ nI (sA_sg B i) from nI_ge (b := 3) hg (by omega)), hp]
theorem pl5 {n : Nat} (hn : n ≤ 5) (h : nI n = 5) : n = 5 := (nI_eq (b := 5) (by omega) (by omega)).mp h
theorem lt4 {q : Nat} (hq : q < 6) (h : ¬ (4 : Int32) ≤ nI q) : q < 4 := Nat.lt_of_not_le fun z => h (nI_le (a := 4) z (by omega))
theorem ge4 {q : Nat} (hq : q < 6) (h : (4 : Int32) ≤ nI q) : ¬ q < 4 := fun z => nI_ge (b := 4) z (by omega) h

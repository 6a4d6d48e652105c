/-! One tick of one wafer, as the reference does it. Own work. -/
def agN (A : St) (i : Nat) : Bool := decide (0 < lmt A i) && decide (lmt A i < sA_sn A i + 1)
abbrev agW (A : St) (i : Nat) : Prop := sA_pl A i < 4 ∧ (sA_dn A).testBit (sA_pl A i) = false
def ag1 (A : St) (i : Nat) : St := sU_en (sU_lf A (va_up (sA_lf A) i (sA_lf A i - 1))) (va_up (sA_en A) i (upd (sA_en A i) (sA_sg A i - 1) (if sA_lf A i = 1 then sA_ck A else -1)))
def ag2 (A : St) (i : Nat) (b : Bool) : St := sU_la (sU_sn A (va_up (sA_sn A) i (sA_sn A i + 1))) (va_up (sA_la A) i b)
def agA (A : St) (i : Nat) : St := if agW A i then (if 0 < sA_lf A i then ag1 A i else ag2 A i (sA_la A i || agN A i)) else A
def agF (A : St) (i : Nat) : Bool := decide (agW A i) && decide (sA_lf A i = 0) && agN A i && !(sA_la A i)
def AG (A : St) (i : Nat) : Prop := i < 25 ∧ sA_pl A i ≤ 5 ∧ sA_rt A i < 2 ∧ sA_sg A i ≤ 3 ∧ (sA_pl A i < 4 → 1 ≤ sA_sg A i) ∧ sA_lf A i ≤ 100 ∧ sA_sn A i < 2 ^ 22 ∧ (sA_pl A i < 4 → lmt A i ≤ 100)
theorem ag_no {A : St} {i : Nat} (h : ¬ agW A i) : b2i false = b2i (agF A i) ∧ A = agA A i := by
  unfold agF agA
  rw [if_neg h, decide_eq_false h]
  exact ⟨rfl, rfl⟩
theorem ag_1 {A : St} {i : Nat} (h : agW A i) (hl : 0 < sA_lf A i) : b2i false = b2i (agF A i) ∧ ag1 A i = agA A i := by
  unfold agF agA
  rw [if_pos h, if_pos hl, decide_eq_false (show ¬ sA_lf A i = 0 by omega)]
  simp
theorem ag_2 {A : St} {i : Nat} (h : agW A i) (hl : sA_lf A i = 0) : agF A i = (agN A i && !(sA_la A i)) ∧ agA A i = ag2 A i (sA_la A i || agN A i) := by
  unfold agF agA
  rw [if_pos h, if_neg (by omega), decide_eq_true h, decide_eq_true hl]
  simp
def mxf {α : Type} (j : Nat) (f g : Nat → α) (i : Nat) : α := if i < j then f i else g i
theorem mxf_0 {α : Type} {f g : Nat → α} : mxf 0 f g = g := by funext i; unfold mxf; rw [if_neg (by omega)]
theorem mxf_s {α : Type} {j : Nat} {f g : Nat → α} : mxf (j + 1) f g = va_up (mxf j f g) j (f j) := by
  funext i
  by_cases h : i = j
  · subst h; rw [va_up_self]; unfold mxf; rw [if_pos (by omega)]
  · rw [va_up_ne _ _ h]; unfold mxf
    by_cases h2 : i < j
    · rw [if_pos h2, if_pos (by omega)]
    · rw [if_neg h2, if_neg (by omega)]
theorem mxf_at {α : Type} {j : Nat} {f g : Nat → α} : mxf j f g j = g j := by unfold mxf; rw [if_neg (by omega)]
theorem mxf_n {α : Type} {j : Nat} {f g : Nat → α} (h : ∀ i, j ≤ i → f i = g i) : mxf j f g = f := by
  funext i
  unfold mxf
  split
  · rfl
  · exact (h i (by omega)).symm
theorem up_same {α : Type} {f : Nat → α} {j : Nat} {v : α} (h : f j = v) : va_up f j v = f := by
  funext i
  unfold va_up
  split
  · next e => rw [e]; exact h.symm
  · rfl
theorem upd_same {f : Nat → Int32} {j : Nat} {v : Int32} (h : f j = v) : upd f j v = f := by
  funext i
  by_cases e : i = j
  · rw [e, pk_us]; exact h.symm
  · exact pk_un e
/-- wafers below j are a tick ahead -/
def TX (A : St) (t j : Nat) : St := mk4 A (mxf j (tkLf A (t + 1)) (tkLf A t)) (mxf j (tkSn A (t + 1)) (tkSn A t)) (mxf j (tkEn A (t + 1)) (tkEn A t)) (mxf j (tkLa A (t + 1)) (tkLa A t)) (sA_ck A + nI (t + 1))
theorem agW_act {A : St} {t j : Nat} (hj : j < sA_n A) : agW (TX A t j) j ↔ act A j = true := by
  rw [act_iff]
  exact ⟨fun h => ⟨hj, h.1, h.2⟩, fun h => ⟨h.2.1, h.2.2⟩⟩
theorem TX_s {A : St} {t j : Nat} : TX A t (j + 1) = mk4 A (va_up (mxf j (tkLf A (t + 1)) (tkLf A t)) j (tkLf A (t + 1) j)) (va_up (mxf j (tkSn A (t + 1)) (tkSn A t)) j (tkSn A (t + 1) j)) (va_up (mxf j (tkEn A (t + 1)) (tkEn A t)) j (tkEn A (t + 1) j)) (va_up (mxf j (tkLa A (t + 1)) (tkLa A t)) j (tkLa A (t + 1) j)) (sA_ck A + nI (t + 1)) := by
  unfold TX
  rw [mxf_s, mxf_s, mxf_s, mxf_s]
theorem ag1_mk {A : St} {f1 f2 : Nat → Nat} {f3 : Nat → Nat → Int32} {f4 : Nat → Bool} {k : Int32} {i : Nat} : ag1 (mk4 A f1 f2 f3 f4 k) i = mk4 A (va_up f1 i (f1 i - 1)) f2 (va_up f3 i (upd (f3 i) (sA_sg A i - 1) (if f1 i = 1 then k else -1))) f4 k := rfl
theorem ag2_mk {A : St} {f1 f2 : Nat → Nat} {f3 : Nat → Nat → Int32} {f4 : Nat → Bool} {k : Int32} {i : Nat} {b : Bool} : ag2 (mk4 A f1 f2 f3 f4 k) i b = mk4 A f1 (va_up f2 i (f2 i + 1)) f3 (va_up f4 i b) k := rfl
theorem agN_mk {A : St} {f1 f2 : Nat → Nat} {f3 : Nat → Nat → Int32} {f4 : Nat → Bool} {k : Int32} {i : Nat} : agN (mk4 A f1 f2 f3 f4 k) i = (decide (0 < lmt A i) && decide (lmt A i < f2 i + 1)) := rfl
/-- a wafer's tick -/
theorem ag_step {A : St} {t j : Nat} (hI : Inv A) (hj : j < sA_n A) : agA (TX A t j) j = TX A t (j + 1) ∧ agF (TX A t j) j = (tkLa A (t + 1) j && !(tkLa A t j)) := by
  obtain ⟨w1, w2, w3, w4, w5, w6, w7⟩ := hI.2.2.1 j hj
  have LF : sA_lf (TX A t j) j = tkLf A t j := mxf_at
  have LN : sA_sn (TX A t j) j = tkSn A t j := mxf_at
  have LL : sA_la (TX A t j) j = tkLa A t j := mxf_at
  by_cases ha : act A j = true
  · have hw : agW (TX A t j) j := (agW_act hj).mpr ha
    obtain ⟨-, h4, -⟩ := act_iff.mp ha
    have eLf : tkLf A t j = sA_lf A j - t := by unfold tkLf; rw [if_pos ha]
    have eLf1 : tkLf A (t + 1) j = sA_lf A j - (t + 1) := by unfold tkLf; rw [if_pos ha]
    have eSn : tkSn A t j = sA_sn A j + (t - sA_lf A j) := by unfold tkSn; rw [if_pos ha]
    have eSn1 : tkSn A (t + 1) j = sA_sn A j + (t + 1 - sA_lf A j) := by unfold tkSn; rw [if_pos ha]
    by_cases hl : 0 < tkLf A t j
    · have hs : tkSn A (t + 1) j = tkSn A t j := by rw [eSn, eSn1]; omega
      have hla : tkLa A (t + 1) j = tkLa A t j := by unfold tkLa; rw [hs]
      have hen : tkEn A t j = sA_en A j := by unfold tkEn; rw [if_neg (by omega)]
      have hen1 : tkEn A (t + 1) j = upd (tkEn A t j) (sA_sg A j - 1) (if tkLf A t j = 1 then sA_ck A + nI (t + 1) else -1) := by
        rw [hen, eLf]
        unfold tkEn
        by_cases h1 : sA_lf A j - t = 1
        · rw [if_pos ⟨ha, by omega, by omega⟩, if_pos h1, show sA_lf A j = t + 1 by omega]
        · rw [if_neg (by omega), if_neg h1]
          exact (upd_same (w6 (by omega)).2).symm
      obtain ⟨q1, q2⟩ := ag_1 hw (by rw [LF]; exact hl)
      refine ⟨?_, ?_⟩
      · rw [← q2, TX_s]
        show ag1 (mk4 A _ _ _ _ _) j = _
        rw [ag1_mk, mxf_at, mxf_at, up_same (f := mxf j (tkSn A (t + 1)) (tkSn A t)) (mxf_at.trans hs.symm), up_same (f := mxf j (tkLa A (t + 1)) (tkLa A t)) (mxf_at.trans hla.symm), hen1, show tkLf A t j - 1 = tkLf A (t + 1) j by rw [eLf, eLf1]; omega]
      · have q3 : agF (TX A t j) j = false := by
          cases hz : agF (TX A t j) j with
          | false => rfl
          | true => rw [hz] at q1; cases q1
        rw [q3, hla]
        cases tkLa A t j <;> rfl
    · have h0 : tkLf A t j = 0 := by omega
      obtain ⟨q1, q2⟩ := ag_2 hw (by rw [LF]; exact h0)
      have hn : agN (TX A t j) j = (decide (0 < lmt A j) && decide (lmt A j < tkSn A (t + 1) j)) := by
        show agN (mk4 A _ _ _ _ _) j = _
        rw [agN_mk, mxf_at, show tkSn A t j + 1 = tkSn A (t + 1) j by rw [eSn, eSn1]; omega]
      have hla : (tkLa A t j || agN (TX A t j) j) = tkLa A (t + 1) j := by
        rw [hn]
        unfold tkLa
        rw [ha]
        have : decide (lmt A j < tkSn A t j) = true → decide (lmt A j < tkSn A (t + 1) j) = true := by
          intro z
          have z := of_decide_eq_true z
          exact decide_eq_true (by omega)
        revert this
        cases sA_la A j <;> cases decide (0 < lmt A j) <;> cases decide (lmt A j < tkSn A t j) <;> cases decide (lmt A j < tkSn A (t + 1) j) <;> simp
      have hen : tkEn A (t + 1) j = tkEn A t j := by
        unfold tkEn
        by_cases h1 : act A j = true ∧ 0 < sA_lf A j ∧ sA_lf A j ≤ t
        · rw [if_pos h1, if_pos ⟨ha, h1.2.1, by omega⟩]
        · rw [if_neg h1, if_neg]
          rintro ⟨-, z1, z2⟩
          exact h1 ⟨ha, z1, by omega⟩
      refine ⟨?_, ?_⟩
      · rw [q2, LL, hla, TX_s]
        show ag2 (mk4 A _ _ _ _ _) j _ = _
        rw [ag2_mk, mxf_at, up_same (f := mxf j (tkLf A (t + 1)) (tkLf A t)) (mxf_at.trans (show tkLf A t j = tkLf A (t + 1) j by rw [eLf1, h0]; omega)), up_same (f := mxf j (tkEn A (t + 1)) (tkEn A t)) (mxf_at.trans hen.symm), show tkSn A t j + 1 = tkSn A (t + 1) j by rw [eSn, eSn1]; omega]
      · rw [q1, LL, ← hla]
        cases tkLa A t j <;> cases agN (TX A t j) j <;> rfl
  · have hw : ¬ agW (TX A t j) j := fun z => ha ((agW_act hj).mp z)
    have ha : act A j = false := by simpa using ha
    obtain ⟨q1, q2⟩ := ag_no hw
    obtain ⟨a1, a2, a3, a4⟩ := tk_no (a := t) ha
    obtain ⟨b1, b2, b3, b4⟩ := tk_no (a := t + 1) ha
    refine ⟨?_, ?_⟩
    · rw [← q2, TX_s, up_same (mxf_at.trans (a1.trans b1.symm)), up_same (mxf_at.trans (a2.trans b2.symm)), up_same (mxf_at.trans (a3.trans b3.symm)), up_same (mxf_at.trans (a4.trans b4.symm))]
      rfl
    · have q3 : agF (TX A t j) j = false := by
        cases hz : agF (TX A t j) j with
        | false => rfl
        | true => rw [hz] at q1; cases q1
      rw [q3, a4, b4]
      cases sA_la A j <;> rfl
def cX (A : St) (t j : Nat) : Nat := cnt (fun i => mxf j (tkLa A (t + 1)) (tkLa A t) i && !(sA_la A i)) (sA_n A)
theorem la_mono {A : St} {t i : Nat} (h : sA_la A i = true) : tkLa A t i = true := by unfold tkLa; rw [h]; rfl
theorem cX_0 {A : St} {t : Nat} : cX A t 0 = becF A t := by unfold cX becF; rw [mxf_0]
theorem act_n {A : St} {i : Nat} (h : sA_n A ≤ i) : act A i = false := by
  cases ha : act A i with
  | false => rfl
  | true => have := (act_iff.mp ha).1; omega
theorem cX_n {A : St} {t : Nat} : cX A t (sA_n A) = becF A (t + 1) := by
  unfold cX becF
  rw [mxf_n (fun i hi => by rw [(tk_no (act_n hi)).2.2.2, (tk_no (act_n hi)).2.2.2])]
theorem TX_n {A : St} {t : Nat} : TX A t (sA_n A) = tickT A (t + 1) := by
  unfold TX tickT
  rw [mxf_n (fun i hi => by rw [(tk_no (act_n hi)).1, (tk_no (act_n hi)).1]), mxf_n (fun i hi => by rw [(tk_no (act_n hi)).2.1, (tk_no (act_n hi)).2.1]), mxf_n (fun i hi => by rw [(tk_no (act_n hi)).2.2.1, (tk_no (act_n hi)).2.2.1]), mxf_n (fun i hi => by rw [(tk_no (act_n hi)).2.2.2, (tk_no (act_n hi)).2.2.2])]
theorem TX_0 {A : St} {t : Nat} : TX A t 0 = sU_ck (tickT A t) (sA_ck A + nI (t + 1)) := by
  unfold TX tickT
  rw [mxf_0, mxf_0, mxf_0, mxf_0]
  rfl
theorem tickT_0 {A : St} (hI : Inv A) : tickT A 0 = A := by
  obtain ⟨e1, e2, e3, e4⟩ := tk_0 hI
  unfold tickT
  rw [e1, e2, e3, e4, show sA_ck A + nI 0 = sA_ck A from Int32.add_zero _]
  exact mk4_id
theorem bec_0 {A : St} (hI : Inv A) : becF A 0 = 0 := by
  unfold becF
  rw [(tk_0 hI).2.2.2]
  exact cnt_none (fun i hi => by cases sA_la A i <;> rfl)
theorem cX_s {A : St} {t j : Nat} (hj : j < sA_n A) (hm : tkLa A t j = true → tkLa A (t + 1) j = true) : cX A t (j + 1) = cX A t j + (if (tkLa A (t + 1) j && !(tkLa A t j)) = true then 1 else 0) := by
  unfold cX
  rw [mxf_s]
  cases hl : tkLa A t j with
  | true =>
    rw [up_same (mxf_at.trans (hl.trans (hm hl).symm))]
    simp
  | false =>
    have hla : sA_la A j = false := by
      cases h : sA_la A j with
      | false => rfl
      | true => rw [la_mono h] at hl; cases hl
    rw [cnt_up (f := fun i => mxf j (tkLa A (t + 1)) (tkLa A t) i && !(sA_la A i)) (g := fun i => va_up (mxf j (tkLa A (t + 1)) (tkLa A t)) j (tkLa A (t + 1) j) i && !(sA_la A i)) hj (fun i hi hne => by rw [va_up_ne _ _ hne]) (by rw [mxf_at, hl]; rfl), va_up_self, hla]
theorem la_up {A : St} {t j : Nat} (h : tkLa A t j = true) : tkLa A (t + 1) j = true := by
  unfold tkLa at h ⊢
  have : tkSn A t j ≤ tkSn A (t + 1) j := by unfold tkSn; split <;> omega
  revert h
  cases sA_la A j <;> cases act A j <;> simp
  intro h1 h2
  exact ⟨h1, by omega⟩
theorem AG_TX {A : St} {t j : Nat} (hI : Inv A) (hB : snB A) (hj : j < sA_n A) (ht : t ≤ 200) : AG (TX A t j) j := by
  obtain ⟨w1, w2, w3, w4, w5, w6, w7⟩ := hI.2.2.1 j hj
  have wl := hI.2.1.1 (sA_rt A j)
  have hn := hI.1
  have hb := hB j hj
  refine ⟨by omega, w3, w1, Nat.le_trans w2 wl, w5, ?_, ?_, fun h4 => (show lmt A j ≤ 100 from lmt_le hI hj h4)⟩
  · show mxf j (tkLf A (t + 1)) (tkLf A t) j ≤ 100
    rw [mxf_at]; unfold tkLf; split <;> omega
  · show mxf j (tkSn A (t + 1)) (tkSn A t) j < 2 ^ 22
    rw [mxf_at]; unfold tkSn; split <;> omega
theorem tick_b1 {A : St} {x : Int32} (h : x < 0) : tickI A x = -1 ∧ tickS A x = A := by
  unfold tickI tickS
  rw [if_neg (fun z => i32_le.mpr z.1 h), if_neg (fun z => i32_le.mpr z.1 h)]
  exact ⟨rfl, rfl⟩
theorem tick_b2 {A : St} {x : Int32} (h : ¬ x ≤ 200) : tickI A x = -1 ∧ tickS A x = A := by
  unfold tickI tickS
  rw [if_neg (fun z => h z.2), if_neg (fun z => h z.2)]
  exact ⟨rfl, rfl⟩
theorem tick_rng {x : Int32} (h : ¬ x < 0) (h2 : x ≤ 200) : ∃ a : Nat, a ≤ 200 ∧ x = nI a := by
  obtain ⟨j, hj, rfl⟩ := nI_of h
  exact ⟨j, (nI_leI (a := j) (b := 200) hj (by omega)).mp h2, rfl⟩
theorem dn4 {n : Nat} (hn : n ≤ 5) (h : ¬ (3 : Int32) < nI n) : n < 4 := Nat.lt_of_not_le fun z => h (nI_lt (a := 3) (by omega) (by omega))
theorem nd4 {n : Nat} (h : (3 : Int32) < nI n) : ¬ n < 4 := fun z => (i32_le.mpr (nI_le (a := n) (b := 3) (by omega) (by omega))) h
theorem fbbb {A : St} {a : Nat} {x y : Bool} (h1 : sA_fb A = x) (h2 : sA_bb A = y) : sU_bb (sU_fb (tickT A a) x) y = tickT A a := by
  subst h1 h2
  rfl
theorem env_tick {A : St} {a : Nat} : envA (tickF A a) = envA A := by
  unfold tickF
  split <;> rfl

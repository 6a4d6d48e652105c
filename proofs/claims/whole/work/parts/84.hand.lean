/-! What holds from call to call; class's readers say what the reference's say. Own work. -/
theorem begun_eq {A : St} {i : Nat} {y : Int32} (hs : sA_sg A i ≤ 3) : f_W_hasBegun A i y = begN A i y := by
  have key : f_T_isWithin y 0 (nI (sA_sg A i) - 1) = true ↔ (0 ≤ y ∧ y < nI (sA_sg A i)) := by
    rw [within_iff]
    have e := nI_m1 (n := sA_sg A i) (by omega)
    constructor
    · rintro ⟨h1, h2⟩
      refine ⟨h1, ?_⟩
      rw [Int32.le_iff_toInt_le] at h2
      rw [Int32.lt_iff_toInt_lt, nI_toInt (by omega)]
      omega
    · rintro ⟨h1, h2⟩
      refine ⟨h1, ?_⟩
      rw [Int32.lt_iff_toInt_lt, nI_toInt (by omega)] at h2
      rw [Int32.le_iff_toInt_le]
      omega
  unfold f_W_hasBegun begN
  by_cases h : 0 ≤ y ∧ y < nI (sA_sg A i)
  · rw [decide_eq_true h, key.mpr h]
  · rw [decide_eq_false h]
    cases hz : f_T_isWithin y 0 (nI (sA_sg A i) - 1) with
    | false => rfl
    | true => exact absurd (key.mp hz) h
theorem place_eq {A : St} {x : Int32} (hI : Inv A) : f_T_place A x = placeF A x := by unfold f_T_place placeF; rw [waferOf_eq hI.1]
theorem stage_eq {A : St} {x : Int32} (hI : Inv A) : f_T_stage A x = stageF A x := by unfold f_T_stage stageF; rw [waferOf_eq hI.1]
theorem left_eq {A : St} {x : Int32} (hI : Inv A) : f_T_left A x = leftF A x := by unfold f_T_left leftF; rw [waferOf_eq hI.1]
theorem sg_3 {A : St} {i : Nat} (hI : Inv A) (hi : i < sA_n A) : sA_sg A i ≤ 3 := Nat.le_trans (hI.2.2.1 i hi).2.1 (hI.2.1.1 _)
theorem visited_eq {A : St} {x y : Int32} (hI : Inv A) : f_T_visited A x y = visitedF A x y := by
  unfold f_T_visited visitedF
  rw [waferOf_eq hI.1]
  cases hw : widx A x with
  | none => rfl
  | some i =>
    rw [oc_some rfl, oc_some rfl, begun_eq (sg_3 hI (widx_some hw hI.1).1)]
theorem when_eq {A : St} {x y z : Int32} (hI : Inv A) : f_T_when A x y z = whenF A x y z := by
  unfold f_T_when whenF
  rw [waferOf_eq hI.1]
  cases hw : widx A x with
  | none => rfl
  | some i =>
    rw [oc_some rfl, oc_some rfl, begun_eq (sg_3 hI (widx_some hw hI.1).1)]
theorem in_eq {G : Gc} {A : St} {x : Int32} (hI : Inv A) (hC : RC G A) : f_T_in G A x = inF A x := by
  unfold f_T_in inF
  by_cases h : 0 ≤ x ∧ x < 5
  · obtain ⟨j, hj, rfl⟩ := i32_nat h.1
    have h5 := (nI_ltI (a := j) (b := 5) hj (by omega)).mp h.2
    rw [if_pos h, if_pos (show f_T_isWithin (nI j) 0 4 = true from within_iff.mpr ⟨h.1, nI_le (a := j) (b := 4) (by omega) (by omega)⟩), nI_clamp (by omega)]
    exact hC.1 j h5
  · rw [if_neg h, if_neg]
    intro z
    obtain ⟨z1, z2⟩ := within_iff.mp z
    obtain ⟨j, hj, rfl⟩ := i32_nat z1
    have h4 := (nI_leI (a := j) (b := 4) hj (by omega)).mp z2
    exact h ⟨z1, nI_lt (a := j) (b := 5) (by omega) (by omega)⟩
theorem Inv_visit {A : St} {x y z k : Int32} (hI : Inv A) : Inv (visitA A x y z k) ∧ (visitA A x y z k = A ∨ sA_n (visitA A x y z k) = 0) := by
  unfold visitA
  cases hx : ridx x with
  | none => rw [oc_none rfl]; exact ⟨hI, Or.inl rfl⟩
  | some r =>
    rw [oc_some rfl]
    by_cases hok : visitOk A r y z k
    · rw [if_pos hok]
      obtain ⟨h0, h3, ⟨y1, y2⟩, ⟨z1, z2⟩, k1', k2'⟩ := hok
      obtain ⟨hn, hR, hW, hu, hf⟩ := hI
      obtain ⟨a, ha1, ha2, rfl⟩ := rng (m := 1) (n := 15) (i32_le.mpr y1) (i32_le.mpr y2) rfl rfl
      obtain ⟨b, hb1, hb2, rfl⟩ := rng (m := 1) (n := 100) (i32_le.mpr z1) (i32_le.mpr z2) rfl rfl
      obtain ⟨d, hd1, hd2, rfl⟩ := rng (m := 0) (n := 100) (i32_le.mpr k1') (i32_le.mpr k2') rfl rfl
      rw [nI_clamp (by omega), nI_clamp (by omega), nI_clamp (by omega)]
      refine ⟨⟨hn, ⟨fun s' => ?_, fun s' i hi => ?_, hR.2.2⟩, fun i hi => ?_, fun i j hi => ?_, hf⟩, Or.inr h0⟩
      · show va_up (sA_len A) r (sA_len A r + 1) s' ≤ 3
        have := hR.1 s'
        by_cases e : s' = r
        · subst e; rw [va_up_self]; omega
        · rw [va_up_ne _ _ e]; omega
      · have hi : i < va_up (sA_len A) r (sA_len A r + 1) s' := hi
        show 1 ≤ va_up (sA_mk A) r (va_up (sA_mk A r) (sA_len A r) a) s' i ∧ va_up (sA_mk A) r (va_up (sA_mk A r) (sA_len A r) a) s' i < 16 ∧ 1 ≤ va_up (sA_tm A) r (va_up (sA_tm A r) (sA_len A r) b) s' i ∧ va_up (sA_tm A) r (va_up (sA_tm A r) (sA_len A r) b) s' i ≤ 100 ∧ va_up (sA_lm A) r (va_up (sA_lm A r) (sA_len A r) d) s' i ≤ 100
        by_cases e : s' = r
        · subst e
          rw [va_up_self] at hi
          rw [va_up_self, va_up_self, va_up_self]
          by_cases e2 : i = sA_len A s'
          · rw [e2, va_up_self, va_up_self, va_up_self]; omega
          · rw [va_up_ne _ _ e2, va_up_ne _ _ e2, va_up_ne _ _ e2]; exact hR.2.1 s' i (by omega)
        · rw [va_up_ne _ _ e] at hi
          rw [va_up_ne _ _ e, va_up_ne _ _ e, va_up_ne _ _ e]; exact hR.2.1 s' i hi
      · have hi : i < sA_n A := hi
        omega
      · have hi : i < sA_n A := hi
        omega
    · rw [if_neg hok]; exact ⟨hI, Or.inl rfl⟩
theorem dn_lt : ∀ d, d < 16 → ∀ q, q < 4 → d ^^^ 2 ^ q < 16 := by decide +kernel
theorem Inv_dn {A : St} {q : Nat} (hI : Inv A) (hq : q < 4) : Inv (sU_dn A (sA_dn A ^^^ 2 ^ q)) := by
  obtain ⟨hn, hR, hW, hu, hf⟩ := hI
  exact ⟨hn, ⟨hR.1, hR.2.1, dn_lt _ hR.2.2 _ hq⟩, hW, hu, hf⟩
theorem Inv_down {A : St} {x y : Int32} (hI : Inv A) : Inv (downA A x y) ∧ sA_n (downA A x y) = sA_n A ∧ sA_sn (downA A x y) = sA_sn A := by
  unfold downA
  by_cases h : downF A x y = true
  · rw [if_pos h]
    refine ⟨?_, rfl, rfl⟩
    unfold downF at h
    cases hc : cidx x with
    | none => rw [oc_none hc] at h; cases h
    | some q =>
      have hq : q < 4 ∧ x.toNatClampNeg = q := by
        unfold cidx at hc
        split at hc
        · next hh =>
          obtain ⟨j, hj, rfl⟩ := i32_nat hh.1
          rw [nI_clamp hj] at hc ⊢
          cases hc
          have := (nI_leI (a := q) (b := 3) hj (by omega)).mp hh.2
          exact ⟨by omega, rfl⟩
        · cases hc
      rw [hq.2]
      exact Inv_dn hI hq.1
  · rw [if_neg h]; exact ⟨hI, rfl, rfl⟩
theorem Inv_tkT {A : St} {a : Nat} (hI : Inv A) : Inv (tickT A a) := by
  obtain ⟨hn, hR, hW, hu, hf⟩ := hI
  refine ⟨hn, hR, fun i hi => ?_, hu, fun i hi => ?_⟩
  · have hi : i < sA_n A := hi
    obtain ⟨w1, w2, w3, w4, w5, w6, w7⟩ := hW i hi
    refine ⟨w1, w2, w3, ?_, w5, ?_, ?_⟩
    · show tkLf A a i ≤ 100
      unfold tkLf; split <;> omega
    · show 0 < tkLf A a i → sA_pl A i < 4 ∧ tkEn A a i (sA_sg A i - 1) = -1
      intro h
      have h1 : 0 < sA_lf A i := by unfold tkLf at h; split at h <;> omega
      refine ⟨(w6 h1).1, ?_⟩
      unfold tkEn
      rw [if_neg]
      · exact (w6 h1).2
      · rintro ⟨h2, h3, h4⟩
        unfold tkLf at h
        rw [if_pos h2] at h
        omega
    · show sA_pl A i < 4 → tkLa A a i = false → sA_lm A (sA_rt A i) (sA_sg A i - 1) = 0 ∨ tkSn A a i ≤ sA_lm A (sA_rt A i) (sA_sg A i - 1)
      intro h4 hl
      unfold tkLa at hl
      rw [Bool.or_eq_false_iff] at hl
      by_cases ha : act A i = true
      · have h2 := hl.2
        rw [ha] at h2
        simp only [Bool.true_and, Bool.and_eq_false_iff, decide_eq_false_iff_not] at h2
        unfold lmt at h2
        rcases h2 with h2 | h2
        · exact Or.inl (by omega)
        · exact Or.inr (by omega)
      · rw [(tk_no (a := a) (by simpa using ha)).2.1]
        exact w7 h4 hl.1
  · have hi : sA_n A ≤ i := hi
    obtain ⟨f1, f2, f3, f4, f5, f6, f7, f8, f9⟩ := hf i hi
    obtain ⟨t1, t2, t3, t4⟩ := tk_no (a := a) (act_n hi)
    exact ⟨f1, f2, f3, t1.trans f4, t2.trans f5, t4.trans f6, f7, f8, t3.trans f9⟩
theorem Inv_bb {B : St} {x y : Bool} (h : Inv B) : Inv (sU_bb (sU_fb B x) y) := ⟨h.1, h.2.1, h.2.2.1, h.2.2.2.1, h.2.2.2.2⟩
theorem bb_f {B : St} {x y : Bool} : sA_n (sU_bb (sU_fb B x) y) = sA_n B ∧ sA_sn (sU_bb (sU_fb B x) y) = sA_sn B := ⟨rfl, rfl⟩
theorem tkT_f {A : St} {a : Nat} : sA_n (tickT A a) = sA_n A ∧ sA_sn (tickT A a) = tkSn A a := ⟨rfl, rfl⟩
theorem Inv_tick {A : St} {x : Int32} (hI : Inv A) : Inv (tickS A x) ∧ sA_n (tickS A x) = sA_n A ∧ ∀ i, sA_sn (tickS A x) i ≤ sA_sn A i + 200 := by
  by_cases h : 0 ≤ x ∧ x ≤ 200
  · obtain ⟨a, ha, rfl⟩ := tick_rng (i32_le.mpr h.1) h.2
    rw [(tick_at ha).2]
    have hs : ∀ i, tkSn A a i ≤ sA_sn A i + 200 := fun i => by unfold tkSn; split <;> omega
    have hq := Inv_tkT (a := a) hI
    obtain ⟨e1, e2⟩ := tkT_f (A := A) (a := a)
    unfold tickF
    generalize tickT A a = B at *
    split
    · refine ⟨Inv_bb hq, bb_f.1.trans e1, fun i => ?_⟩
      rw [bb_f.2, e2]; exact hs i
    · refine ⟨hq, e1, fun i => ?_⟩
      rw [e2]; exact hs i
  · unfold tickS
    rw [if_neg h]; exact ⟨hI, rfl, fun i => by omega⟩
/-- no wafer has waited longer than the ticks that were -/
def SNk (A : St) (k : Nat) : Prop := ∀ i, sA_sn A i ≤ 200 * k
theorem SNk_B {A : St} {k : Nat} (h : SNk A k) (hk : k ≤ 600) : snB A := fun i _ => by have := h i; omega
theorem SNk_up {A : St} {k : Nat} (h : SNk A k) : SNk A (k + 1) := fun i => by have := h i; omega
theorem SNk_tick {A : St} {x : Int32} {k : Nat} (hI : Inv A) (h : SNk A k) : SNk (tickS A x) (k + 1) := fun i => by
  have h1 := (Inv_tick (x := x) hI).2.2 i
  have h2 := h i
  omega
theorem SNk_move {A : St} {i q k : Nat} (h : SNk A k) : SNk (moveA A i q) (k + 1) := by
  intro j
  have hj := h j
  by_cases h4 : q < 4
  · rw [(moveA_4 (A := A) (i := i) h4).2.2.1]
    by_cases e : j = i
    · rw [e, va_up_self]; omega
    · rw [va_up_ne _ _ e]; omega
  · rw [(moveA_5 (A := A) (i := i) h4).2.2.1]; omega
theorem Inv_mvF {A : St} {x y : Int32} {k : Nat} (hI : Inv A) (h : SNk A k) : Inv (moveF A x y) ∧ SNk (moveF A x y) (k + 1) := by
  by_cases hm : mayF A x y = 0
  · have hn := hI.1
    obtain ⟨i, q, hi, hq, rfl, rfl, hm0⟩ := mayF_0 hI.1 hm
    rw [moveF_at (by omega) hq hm]
    exact ⟨Inv_move hI hi hq hm0, SNk_move h⟩
  · unfold moveF; rw [if_neg hm]; exact ⟨hI, SNk_up h⟩
theorem Inv_go {A : St} {k : Nat} (hI : Inv A) (h : SNk A k) : Inv (goA A) ∧ SNk (goA A) (k + 1) := by
  have hn := hI.1
  rcases next_spec hI with h1 | ⟨i, q, hi, hq, h1, hm0⟩
  · unfold goA; rw [if_pos h1]; exact ⟨hI, SNk_up h⟩
  · rw [goA_at (by omega) hq h1]
    exact ⟨Inv_move hI hi hq hm0, SNk_move h⟩
theorem Inv_ldS {A : St} {x : Int32} {k : Nat} (hI : Inv A) (h : SNk A k) : Inv (loadS A x) ∧ SNk (loadS A x) (k + 1) := by
  have hn := hI.1
  unfold loadS
  cases hx : ridx x with
  | none => rw [oc_none rfl]; exact ⟨hI, SNk_up h⟩
  | some r =>
    rw [oc_some rfl]
    by_cases h25 : 25 ≤ sA_n A
    · rw [if_pos h25]; exact ⟨hI, SNk_up h⟩
    · rw [if_neg h25]
      have hr : r < 2 := by
        unfold ridx at hx
        split at hx
        · cases hx; omega
        · split at hx
          · cases hx; omega
          · cases hx
      exact ⟨Inv_load hI hr (by omega), fun i => SNk_up h i⟩
theorem Inv_vis {A : St} {x y z w : Int32} {k : Nat} (hI : Inv A) (h : SNk A k) : Inv (visitA A x y z w) ∧ SNk (visitA A x y z w) (k + 1) := by
  refine ⟨(Inv_visit hI).1, fun i => ?_⟩
  have hi := h i
  have e : sA_sn (visitA A x y z w) = sA_sn A := by
    unfold visitA
    cases hx : ridx x with
    | none => rw [oc_none rfl]
    | some r =>
      rw [oc_some rfl]
      by_cases hok : visitOk A r y z w
      · rw [if_pos hok]; rfl
      · rw [if_neg hok]
  rw [e]
  omega
theorem Inv_dwn {A : St} {x y : Int32} {k : Nat} (hI : Inv A) (h : SNk A k) : Inv (downA A x y) ∧ SNk (downA A x y) (k + 1) :=
  ⟨(Inv_down hI).1, fun i => by rw [(Inv_down hI).2.2]; exact SNk_up h i⟩
theorem SNk_0 : SNk A00 0 := fun _ => Nat.le_refl _

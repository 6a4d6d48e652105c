/-! Behind a store the world is a world again. Own work, printed by sets.py. -/
theorem upd_nI (f : Nat → Nat) (k v : Nat) : upd (fun i => nI (f i)) k (nI v) = fun i => nI (va_up f k v i) := by
  funext j
  unfold upd va_up
  split <;> rfl
theorem upd_b2i (f : Nat → Bool) (k : Nat) (v : Bool) : upd (fun i => b2i (f i)) k (b2i v) = fun i => b2i (va_up f k v i) := by
  funext j
  unfold upd va_up
  split <;> rfl
section CWS
variable {X : Xt} {G : Gc} {A : St} {i r k : Nat}
theorem cw_s_pl {v : Nat} : (cw X G A).set (18 + 4 * i) (gA_ad G (18 + 4 * i), .inr (5, (o_waf G A i).set 4 (.int (nI v)))) = cw X G (sU_pl A (va_up (sA_pl A) i v)) := by
  refine wc_set (i := i) (t := 0) (by omega) ?_ ?_ rfl rfl
  · rw [wcell_at (by omega)]
    simp only [wE, o_waf, sA_rt, sA_pl, sA_sg, sA_lf, sA_la, sA_ch, sA_be, sA_en, gA_ad, gA_wt, gA_fi, sU_pl, List.set_cons_succ, List.set_cons_zero, va_up_self]
    rfl
  · intro j u hu hne
    rw [wcell_at hu, wcell_at hu]
    rcases (show u = 0 ∨ u = 1 ∨ u = 2 ∨ u = 3 by omega) with rfl | rfl | rfl | rfl
    · have hj : j ≠ i := fun e => hne ⟨e, rfl⟩
      simp only [wE, o_waf, sA_rt, sA_pl, sA_sg, sA_lf, sA_la, sA_ch, sA_be, sA_en, gA_ad, gA_wt, gA_fi, sU_pl, va_up_ne _ _ hj]
    · rfl
    · rfl
    · rfl
theorem cw_s_sg {v : Nat} : (cw X G A).set (18 + 4 * i) (gA_ad G (18 + 4 * i), .inr (5, (o_waf G A i).set 5 (.int (nI v)))) = cw X G (sU_sg A (va_up (sA_sg A) i v)) := by
  refine wc_set (i := i) (t := 0) (by omega) ?_ ?_ rfl rfl
  · rw [wcell_at (by omega)]
    simp only [wE, o_waf, sA_rt, sA_pl, sA_sg, sA_lf, sA_la, sA_ch, sA_be, sA_en, gA_ad, gA_wt, gA_fi, sU_sg, List.set_cons_succ, List.set_cons_zero, va_up_self]
    rfl
  · intro j u hu hne
    rw [wcell_at hu, wcell_at hu]
    rcases (show u = 0 ∨ u = 1 ∨ u = 2 ∨ u = 3 by omega) with rfl | rfl | rfl | rfl
    · have hj : j ≠ i := fun e => hne ⟨e, rfl⟩
      simp only [wE, o_waf, sA_rt, sA_pl, sA_sg, sA_lf, sA_la, sA_ch, sA_be, sA_en, gA_ad, gA_wt, gA_fi, sU_sg, va_up_ne _ _ hj]
    · rfl
    · rfl
    · rfl
theorem cw_s_lf {v : Nat} : (cw X G A).set (18 + 4 * i) (gA_ad G (18 + 4 * i), .inr (5, (o_waf G A i).set 6 (.int (nI v)))) = cw X G (sU_lf A (va_up (sA_lf A) i v)) := by
  refine wc_set (i := i) (t := 0) (by omega) ?_ ?_ rfl rfl
  · rw [wcell_at (by omega)]
    simp only [wE, o_waf, sA_rt, sA_pl, sA_sg, sA_lf, sA_la, sA_ch, sA_be, sA_en, gA_ad, gA_wt, gA_fi, sU_lf, List.set_cons_succ, List.set_cons_zero, va_up_self]
    rfl
  · intro j u hu hne
    rw [wcell_at hu, wcell_at hu]
    rcases (show u = 0 ∨ u = 1 ∨ u = 2 ∨ u = 3 by omega) with rfl | rfl | rfl | rfl
    · have hj : j ≠ i := fun e => hne ⟨e, rfl⟩
      simp only [wE, o_waf, sA_rt, sA_pl, sA_sg, sA_lf, sA_la, sA_ch, sA_be, sA_en, gA_ad, gA_wt, gA_fi, sU_lf, va_up_ne _ _ hj]
    · rfl
    · rfl
    · rfl
theorem cw_s_wt {v : Int32} : (cw X G A).set (18 + 4 * i) (gA_ad G (18 + 4 * i), .inr (5, (o_waf G A i).set 7 (.int v))) = cw X (gU_wt G (va_up (gA_wt G) i v)) A := by
  refine wc_set (i := i) (t := 0) (by omega) ?_ ?_ rfl rfl
  · rw [wcell_at (by omega)]
    simp only [wE, o_waf, sA_rt, sA_pl, sA_sg, sA_lf, sA_la, sA_ch, sA_be, sA_en, gA_ad, gA_wt, gA_fi, gU_wt, List.set_cons_succ, List.set_cons_zero, va_up_self]
    rfl
  · intro j u hu hne
    rw [wcell_at hu, wcell_at hu]
    rcases (show u = 0 ∨ u = 1 ∨ u = 2 ∨ u = 3 by omega) with rfl | rfl | rfl | rfl
    · have hj : j ≠ i := fun e => hne ⟨e, rfl⟩
      simp only [wE, o_waf, sA_rt, sA_pl, sA_sg, sA_lf, sA_la, sA_ch, sA_be, sA_en, gA_ad, gA_wt, gA_fi, gU_wt, va_up_ne _ _ hj]
    · rfl
    · rfl
    · rfl
theorem cw_s_fi {v : Bool} : (cw X G A).set (18 + 4 * i) (gA_ad G (18 + 4 * i), .inr (5, (o_waf G A i).set 8 (.int (b2i v)))) = cw X (gU_fi G (va_up (gA_fi G) i v)) A := by
  refine wc_set (i := i) (t := 0) (by omega) ?_ ?_ rfl rfl
  · rw [wcell_at (by omega)]
    simp only [wE, o_waf, sA_rt, sA_pl, sA_sg, sA_lf, sA_la, sA_ch, sA_be, sA_en, gA_ad, gA_wt, gA_fi, gU_fi, List.set_cons_succ, List.set_cons_zero, va_up_self]
    rfl
  · intro j u hu hne
    rw [wcell_at hu, wcell_at hu]
    rcases (show u = 0 ∨ u = 1 ∨ u = 2 ∨ u = 3 by omega) with rfl | rfl | rfl | rfl
    · have hj : j ≠ i := fun e => hne ⟨e, rfl⟩
      simp only [wE, o_waf, sA_rt, sA_pl, sA_sg, sA_lf, sA_la, sA_ch, sA_be, sA_en, gA_ad, gA_wt, gA_fi, gU_fi, va_up_ne _ _ hj]
    · rfl
    · rfl
    · rfl
theorem cw_s_la {v : Bool} : (cw X G A).set (18 + 4 * i) (gA_ad G (18 + 4 * i), .inr (5, (o_waf G A i).set 9 (.int (b2i v)))) = cw X G (sU_la A (va_up (sA_la A) i v)) := by
  refine wc_set (i := i) (t := 0) (by omega) ?_ ?_ rfl rfl
  · rw [wcell_at (by omega)]
    simp only [wE, o_waf, sA_rt, sA_pl, sA_sg, sA_lf, sA_la, sA_ch, sA_be, sA_en, gA_ad, gA_wt, gA_fi, sU_la, List.set_cons_succ, List.set_cons_zero, va_up_self]
    rfl
  · intro j u hu hne
    rw [wcell_at hu, wcell_at hu]
    rcases (show u = 0 ∨ u = 1 ∨ u = 2 ∨ u = 3 by omega) with rfl | rfl | rfl | rfl
    · have hj : j ≠ i := fun e => hne ⟨e, rfl⟩
      simp only [wE, o_waf, sA_rt, sA_pl, sA_sg, sA_lf, sA_la, sA_ch, sA_be, sA_en, gA_ad, gA_wt, gA_fi, sU_la, va_up_ne _ _ hj]
    · rfl
    · rfl
    · rfl
theorem cw_s_ch {x : Int32} : (cw X G A).set (18 + 4 * i + 1) (gA_ad G (18 + 4 * i + 1), .inl (x_I X, aI 3 (upd (sA_ch A i) k x))) = cw X G (sU_ch A (va_up (sA_ch A) i (upd (sA_ch A i) k x))) := by
  refine wc_set (i := i) (t := 1) (by omega) ?_ ?_ rfl rfl
  · rw [wcell_at (by omega)]
    simp only [wE, sA_rt, sA_pl, sA_sg, sA_lf, sA_la, sA_ch, sA_be, sA_en, gA_ad, gA_wt, gA_fi, sU_ch, va_up_self]
    rfl
  · intro j u hu hne
    rw [wcell_at hu, wcell_at hu]
    rcases (show u = 0 ∨ u = 1 ∨ u = 2 ∨ u = 3 by omega) with rfl | rfl | rfl | rfl
    · rfl
    · have hj : j ≠ i := fun e => hne ⟨e, rfl⟩
      simp only [wE, sA_rt, sA_pl, sA_sg, sA_lf, sA_la, sA_ch, sA_be, sA_en, gA_ad, gA_wt, gA_fi, sU_ch, va_up_ne _ _ hj]
    · rfl
    · rfl
theorem cw_s_be {x : Int32} : (cw X G A).set (18 + 4 * i + 2) (gA_ad G (18 + 4 * i + 2), .inl (x_I X, aI 3 (upd (sA_be A i) k x))) = cw X G (sU_be A (va_up (sA_be A) i (upd (sA_be A i) k x))) := by
  refine wc_set (i := i) (t := 2) (by omega) ?_ ?_ rfl rfl
  · rw [wcell_at (by omega)]
    simp only [wE, sA_rt, sA_pl, sA_sg, sA_lf, sA_la, sA_ch, sA_be, sA_en, gA_ad, gA_wt, gA_fi, sU_be, va_up_self]
    rfl
  · intro j u hu hne
    rw [wcell_at hu, wcell_at hu]
    rcases (show u = 0 ∨ u = 1 ∨ u = 2 ∨ u = 3 by omega) with rfl | rfl | rfl | rfl
    · rfl
    · rfl
    · have hj : j ≠ i := fun e => hne ⟨e, rfl⟩
      simp only [wE, sA_rt, sA_pl, sA_sg, sA_lf, sA_la, sA_ch, sA_be, sA_en, gA_ad, gA_wt, gA_fi, sU_be, va_up_ne _ _ hj]
    · rfl
theorem cw_s_en {x : Int32} : (cw X G A).set (18 + 4 * i + 3) (gA_ad G (18 + 4 * i + 3), .inl (x_I X, aI 3 (upd (sA_en A i) k x))) = cw X G (sU_en A (va_up (sA_en A) i (upd (sA_en A i) k x))) := by
  refine wc_set (i := i) (t := 3) (by omega) ?_ ?_ rfl rfl
  · rw [wcell_at (by omega)]
    simp only [wE, sA_rt, sA_pl, sA_sg, sA_lf, sA_la, sA_ch, sA_be, sA_en, gA_ad, gA_wt, gA_fi, sU_en, va_up_self]
    rfl
  · intro j u hu hne
    rw [wcell_at hu, wcell_at hu]
    rcases (show u = 0 ∨ u = 1 ∨ u = 2 ∨ u = 3 by omega) with rfl | rfl | rfl | rfl
    · rfl
    · rfl
    · rfl
    · have hj : j ≠ i := fun e => hne ⟨e, rfl⟩
      simp only [wE, sA_rt, sA_pl, sA_sg, sA_lf, sA_la, sA_ch, sA_be, sA_en, gA_ad, gA_wt, gA_fi, sU_en, va_up_ne _ _ hj]
theorem cw_s_ck {v : Int32} : (cw X G A).set 0 (gA_ad G 0, .inr (0, (o_tool G A).set 7 (.int v))) = cw X G (sU_ck A v) := rfl
theorem cw_s_dn {v : Nat} : (cw X G A).set 1 (gA_ad G 1, .inr (1, (o_ways G A).set 1 (.int (nI v)))) = cw X G (sU_dn A v) := rfl
theorem cw_s_fb {v : Bool} : (cw X G A).set 3 (gA_ad G 3, .inr (3, (o_front A).set 0 (.int (b2i v)))) = cw X G (sU_fb A v) := rfl
theorem cw_s_fm {v : Int32} : (cw X G A).set 3 (gA_ad G 3, .inr (3, (o_front A).set 1 (.int v))) = cw X G (sU_fm A v) := rfl
theorem cw_s_bb {v : Bool} : (cw X G A).set 4 (gA_ad G 4, .inr (3, (o_back A).set 0 (.int (b2i v)))) = cw X G (sU_bb A v) := rfl
theorem cw_s_bm {v : Int32} : (cw X G A).set 4 (gA_ad G 4, .inr (3, (o_back A).set 1 (.int v))) = cw X G (sU_bm A v) := rfl
theorem cw_s_ins {v : Int32} : (cw X G A).set 6 (gA_ad G 6, .inl (x_I X, aI 5 (upd (gA_ins G) k v))) = cw X (gU_ins G (upd (gA_ins G) k v)) A := rfl
theorem cw_s_kn {v : Int64} : (cw X G A).set 16 (gA_ad G 16, .inl (x_J X, aJ 1024 (vp_updL (gA_kn G) k v))) = cw X (gU_kn G (vp_updL (gA_kn G) k v)) A := rfl
theorem cw_s_ps {v : Int64} : (cw X G A).set 17 (gA_ad G 17, .inl (x_J X, aJ 1024 (vp_updL (gA_ps G) k v))) = cw X (gU_ps G (vp_updL (gA_ps G) k v)) A := rfl
theorem cw_s_kn0 {f : Nat → Int64} : (cw X G A).set 16 (gA_ad G 16, .inl (x_J X, aJ 1024 f)) = cw X (gU_kn G f) A := rfl
theorem cw_s_ps0 {f : Nat → Int64} : (cw X G A).set 17 (gA_ad G 17, .inl (x_J X, aJ 1024 f)) = cw X (gU_ps G f) A := rfl
theorem cw_s_len {v : Nat} (hr : r < 2) : (cw X G A).set (8 + 4 * r) (gA_ad G (8 + 4 * r), .inr (4, (o_route G A r).set 3 (.int (nI v)))) = cw X G (sU_len A (va_up (sA_len A) r v)) := by
  rcases (show r = 0 ∨ r = 1 by omega) with rfl | rfl <;> rfl
theorem cw_s_mk {v : Nat} (hr : r < 2) : (cw X G A).set (9 + 4 * r) (gA_ad G (9 + 4 * r), .inl (x_I X, aI 3 (upd (fun i => nI (sA_mk A r i)) k (nI v)))) = cw X G (sU_mk A (va_up (sA_mk A) r (va_up (sA_mk A r) k v))) := by
  rw [upd_nI]
  rcases (show r = 0 ∨ r = 1 by omega) with rfl | rfl <;> rfl
theorem cw_s_tm {v : Nat} (hr : r < 2) : (cw X G A).set (10 + 4 * r) (gA_ad G (10 + 4 * r), .inl (x_I X, aI 3 (upd (fun i => nI (sA_tm A r i)) k (nI v)))) = cw X G (sU_tm A (va_up (sA_tm A) r (va_up (sA_tm A r) k v))) := by
  rw [upd_nI]
  rcases (show r = 0 ∨ r = 1 by omega) with rfl | rfl <;> rfl
theorem cw_s_lm {v : Nat} (hr : r < 2) : (cw X G A).set (11 + 4 * r) (gA_ad G (11 + 4 * r), .inl (x_I X, aI 3 (upd (fun i => nI (sA_lm A r i)) k (nI v)))) = cw X G (sU_lm A (va_up (sA_lm A) r (va_up (sA_lm A r) k v))) := by
  rw [upd_nI]
  rcases (show r = 0 ∨ r = 1 by omega) with rfl | rfl <;> rfl
end CWS
/-! The reference's world. -/
def o_mod (G : Gr) (A : St) : List Value := [.ref (rA_ad G 1), .ref (rA_ad G 2), .ref (rA_ad G 3), .ref (rA_ad G 4), .int (nI (sA_n A)), .ref (rA_ad G 5), .ref (rA_ad G 6), .ref (rA_ad G 7), .ref (rA_ad G 8), .ref (rA_ad G 9), .ref (rA_ad G 10), .ref (rA_ad G 11), .ref (rA_ad G 12), .ref (rA_ad G 13), .ref (rA_ad G 14), .int (sA_ck A), .int (b2i (sA_fb A)), .int (b2i (sA_bb A)), .int (sA_fm A), .int (sA_bm A), .ref (rA_ad G 15), .int (b2i (rA_st G)), .ref (rA_ad G 16), .ref (rA_ad G 17)]
def rw_ (X : Xt) (G : Gr) (A : St) : va_W := [
  (rA_ad G 0, .inr (6, o_mod G A)),
  (rA_ad G 1, .inl (x_I X, aI 2 (fun r => nI (sA_len A r)))),
  (rA_ad G 2, .inl (x_I X, aI 6 (fun x => nI (sA_mk A (x / 3) (x % 3))))),
  (rA_ad G 3, .inl (x_I X, aI 6 (fun x => nI (sA_tm A (x / 3) (x % 3))))),
  (rA_ad G 4, .inl (x_I X, aI 6 (fun x => nI (sA_lm A (x / 3) (x % 3))))),
  (rA_ad G 5, .inl (x_I X, aI 25 (fun i => nI (sA_rt A i)))),
  (rA_ad G 6, .inl (x_I X, aI 25 (fun i => nI (sA_sg A i)))),
  (rA_ad G 7, .inl (x_I X, aI 25 (fun i => nI (sA_pl A i)))),
  (rA_ad G 8, .inl (x_I X, aI 25 (fun i => nI (sA_lf A i)))),
  (rA_ad G 9, .inl (x_I X, aI 25 (fun i => nI (sA_sn A i)))),
  (rA_ad G 10, .inl (x_Z X, aI 25 (fun i => b2i (sA_la A i)))),
  (rA_ad G 11, .inl (x_I X, aI 75 (fun x => sA_ch A (x / 3) (x % 3)))),
  (rA_ad G 12, .inl (x_I X, aI 75 (fun x => sA_be A (x / 3) (x % 3)))),
  (rA_ad G 13, .inl (x_I X, aI 75 (fun x => sA_en A (x / 3) (x % 3)))),
  (rA_ad G 14, .inl (x_Z X, aI 4 (fun p => b2i ((sA_dn A).testBit p)))),
  (rA_ad G 15, .inl (x_I X, aI 3691 (rA_kn G))),
  (rA_ad G 16, .inl (x_I X, aI 64 (rA_tr G))),
  (rA_ad G 17, .inl (x_I X, aI 64 (rA_tu G)))]
section RW
variable {X : Xt} {G : Gr} {A : St} {i r k s : Nat}
theorem rw_0 : (rw_ X G A)[0]? = some (rA_ad G 0, .inr (6, o_mod G A)) := rfl
theorem rw_1 : (rw_ X G A)[1]? = some (rA_ad G 1, .inl (x_I X, aI 2 (fun r => nI (sA_len A r)))) := rfl
theorem rw_2 : (rw_ X G A)[2]? = some (rA_ad G 2, .inl (x_I X, aI 6 (fun x => nI (sA_mk A (x / 3) (x % 3))))) := rfl
theorem rw_3 : (rw_ X G A)[3]? = some (rA_ad G 3, .inl (x_I X, aI 6 (fun x => nI (sA_tm A (x / 3) (x % 3))))) := rfl
theorem rw_4 : (rw_ X G A)[4]? = some (rA_ad G 4, .inl (x_I X, aI 6 (fun x => nI (sA_lm A (x / 3) (x % 3))))) := rfl
theorem rw_5 : (rw_ X G A)[5]? = some (rA_ad G 5, .inl (x_I X, aI 25 (fun i => nI (sA_rt A i)))) := rfl
theorem rw_6 : (rw_ X G A)[6]? = some (rA_ad G 6, .inl (x_I X, aI 25 (fun i => nI (sA_sg A i)))) := rfl
theorem rw_7 : (rw_ X G A)[7]? = some (rA_ad G 7, .inl (x_I X, aI 25 (fun i => nI (sA_pl A i)))) := rfl
theorem rw_8 : (rw_ X G A)[8]? = some (rA_ad G 8, .inl (x_I X, aI 25 (fun i => nI (sA_lf A i)))) := rfl
theorem rw_9 : (rw_ X G A)[9]? = some (rA_ad G 9, .inl (x_I X, aI 25 (fun i => nI (sA_sn A i)))) := rfl
theorem rw_10 : (rw_ X G A)[10]? = some (rA_ad G 10, .inl (x_Z X, aI 25 (fun i => b2i (sA_la A i)))) := rfl
theorem rw_11 : (rw_ X G A)[11]? = some (rA_ad G 11, .inl (x_I X, aI 75 (fun x => sA_ch A (x / 3) (x % 3)))) := rfl
theorem rw_12 : (rw_ X G A)[12]? = some (rA_ad G 12, .inl (x_I X, aI 75 (fun x => sA_be A (x / 3) (x % 3)))) := rfl
theorem rw_13 : (rw_ X G A)[13]? = some (rA_ad G 13, .inl (x_I X, aI 75 (fun x => sA_en A (x / 3) (x % 3)))) := rfl
theorem rw_14 : (rw_ X G A)[14]? = some (rA_ad G 14, .inl (x_Z X, aI 4 (fun p => b2i ((sA_dn A).testBit p)))) := rfl
theorem rw_15 : (rw_ X G A)[15]? = some (rA_ad G 15, .inl (x_I X, aI 3691 (rA_kn G))) := rfl
theorem rw_16 : (rw_ X G A)[16]? = some (rA_ad G 16, .inl (x_I X, aI 64 (rA_tr G))) := rfl
theorem rw_17 : (rw_ X G A)[17]? = some (rA_ad G 17, .inl (x_I X, aI 64 (rA_tu G))) := rfl
theorem rw_s_n {v : Nat} : (rw_ X G A).set 0 (rA_ad G 0, .inr (6, (o_mod G A).set 4 (.int (nI v)))) = rw_ X G (sU_n A v) := rfl
theorem rw_s_ck {v : Int32} : (rw_ X G A).set 0 (rA_ad G 0, .inr (6, (o_mod G A).set 15 (.int v))) = rw_ X G (sU_ck A v) := rfl
theorem rw_s_fb {v : Bool} : (rw_ X G A).set 0 (rA_ad G 0, .inr (6, (o_mod G A).set 16 (.int (b2i v)))) = rw_ X G (sU_fb A v) := rfl
theorem rw_s_bb {v : Bool} : (rw_ X G A).set 0 (rA_ad G 0, .inr (6, (o_mod G A).set 17 (.int (b2i v)))) = rw_ X G (sU_bb A v) := rfl
theorem rw_s_fm {v : Int32} : (rw_ X G A).set 0 (rA_ad G 0, .inr (6, (o_mod G A).set 18 (.int v))) = rw_ X G (sU_fm A v) := rfl
theorem rw_s_bm {v : Int32} : (rw_ X G A).set 0 (rA_ad G 0, .inr (6, (o_mod G A).set 19 (.int v))) = rw_ X G (sU_bm A v) := rfl
theorem rw_s_st {v : Bool} : (rw_ X G A).set 0 (rA_ad G 0, .inr (6, (o_mod G A).set 21 (.int (b2i v)))) = rw_ X (rU_st G v) A := rfl
theorem rw_s_rt {v : Nat} : (rw_ X G A).set 5 (rA_ad G 5, .inl (x_I X, aI 25 (upd (fun i => nI (sA_rt A i)) k (nI v)))) = rw_ X G (sU_rt A (va_up (sA_rt A) k v)) := by
  rw [upd_nI]
  rfl
theorem rw_s_sg {v : Nat} : (rw_ X G A).set 6 (rA_ad G 6, .inl (x_I X, aI 25 (upd (fun i => nI (sA_sg A i)) k (nI v)))) = rw_ X G (sU_sg A (va_up (sA_sg A) k v)) := by
  rw [upd_nI]
  rfl
theorem rw_s_pl {v : Nat} : (rw_ X G A).set 7 (rA_ad G 7, .inl (x_I X, aI 25 (upd (fun i => nI (sA_pl A i)) k (nI v)))) = rw_ X G (sU_pl A (va_up (sA_pl A) k v)) := by
  rw [upd_nI]
  rfl
theorem rw_s_lf {v : Nat} : (rw_ X G A).set 8 (rA_ad G 8, .inl (x_I X, aI 25 (upd (fun i => nI (sA_lf A i)) k (nI v)))) = rw_ X G (sU_lf A (va_up (sA_lf A) k v)) := by
  rw [upd_nI]
  rfl
theorem rw_s_sn {v : Nat} : (rw_ X G A).set 9 (rA_ad G 9, .inl (x_I X, aI 25 (upd (fun i => nI (sA_sn A i)) k (nI v)))) = rw_ X G (sU_sn A (va_up (sA_sn A) k v)) := by
  rw [upd_nI]
  rfl
theorem rw_s_len {v : Nat} : (rw_ X G A).set 1 (rA_ad G 1, .inl (x_I X, aI 2 (upd (fun r => nI (sA_len A r)) k (nI v)))) = rw_ X G (sU_len A (va_up (sA_len A) k v)) := by
  rw [upd_nI]
  rfl
theorem rw_s_la {v : Bool} : (rw_ X G A).set 10 (rA_ad G 10, .inl (x_Z X, aI 25 (upd (fun i => b2i (sA_la A i)) k (b2i v)))) = rw_ X G (sU_la A (va_up (sA_la A) k v)) := by
  rw [upd_b2i]
  rfl
theorem rw_s_kn {v : Int32} : (rw_ X G A).set 15 (rA_ad G 15, .inl (x_I X, aI 3691 (upd (rA_kn G) k v))) = rw_ X (rU_kn G (upd (rA_kn G) k v)) A := rfl
theorem rw_s_tr {v : Int32} : (rw_ X G A).set 16 (rA_ad G 16, .inl (x_I X, aI 64 (upd (rA_tr G) k v))) = rw_ X (rU_tr G (upd (rA_tr G) k v)) A := rfl
theorem rw_s_tu {v : Int32} : (rw_ X G A).set 17 (rA_ad G 17, .inl (x_I X, aI 64 (upd (rA_tu G) k v))) = rw_ X (rU_tu G (upd (rA_tu G) k v)) A := rfl
theorem upd_33 (f : Nat → Nat → Int32) (hs : s < 3) (v : Int32) : upd (fun x => f (x / 3) (x % 3)) (3 * i + s) v = fun x => va_up f i (upd (f i) s v) (x / 3) (x % 3) := by
  funext x
  unfold upd va_up
  by_cases h : x = 3 * i + s
  · subst h
    rw [if_pos rfl, show (3 * i + s) / 3 = i by omega, show (3 * i + s) % 3 = s by omega, if_pos rfl]
    simp
  · rw [if_neg h]
    by_cases h1 : x / 3 = i
    · rw [if_pos h1, if_neg (by omega)]
      dsimp only
      rw [h1]
    · rw [if_neg h1]
theorem upd_33n (f : Nat → Nat → Nat) (hs : s < 3) (v : Nat) : upd (fun x => nI (f (x / 3) (x % 3))) (3 * i + s) (nI v) = fun x => nI (va_up f i (va_up (f i) s v) (x / 3) (x % 3)) := by
  funext x
  unfold upd va_up
  by_cases h : x = 3 * i + s
  · subst h
    rw [if_pos rfl, show (3 * i + s) / 3 = i by omega, show (3 * i + s) % 3 = s by omega, if_pos rfl]
    simp
  · rw [if_neg h]
    by_cases h1 : x / 3 = i
    · rw [if_pos h1, if_neg (by omega)]
      dsimp only
      rw [h1]
    · rw [if_neg h1]
theorem rw_s_ch {v : Int32} (hs : s < 3) : (rw_ X G A).set 11 (rA_ad G 11, .inl (x_I X, aI 75 (upd (fun x => sA_ch A (x / 3) (x % 3)) (3 * i + s) v))) = rw_ X G (sU_ch A (va_up (sA_ch A) i (upd (sA_ch A i) s v))) := by
  rw [upd_33 _ hs]
  rfl
theorem rw_s_be {v : Int32} (hs : s < 3) : (rw_ X G A).set 12 (rA_ad G 12, .inl (x_I X, aI 75 (upd (fun x => sA_be A (x / 3) (x % 3)) (3 * i + s) v))) = rw_ X G (sU_be A (va_up (sA_be A) i (upd (sA_be A i) s v))) := by
  rw [upd_33 _ hs]
  rfl
theorem rw_s_en {v : Int32} (hs : s < 3) : (rw_ X G A).set 13 (rA_ad G 13, .inl (x_I X, aI 75 (upd (fun x => sA_en A (x / 3) (x % 3)) (3 * i + s) v))) = rw_ X G (sU_en A (va_up (sA_en A) i (upd (sA_en A i) s v))) := by
  rw [upd_33 _ hs]
  rfl
theorem rw_s_mk {v : Nat} (hs : s < 3) : (rw_ X G A).set 2 (rA_ad G 2, .inl (x_I X, aI 6 (upd (fun x => nI (sA_mk A (x / 3) (x % 3))) (3 * i + s) (nI v)))) = rw_ X G (sU_mk A (va_up (sA_mk A) i (va_up (sA_mk A i) s v))) := by
  rw [upd_33n _ hs]
  rfl
theorem rw_s_tm {v : Nat} (hs : s < 3) : (rw_ X G A).set 3 (rA_ad G 3, .inl (x_I X, aI 6 (upd (fun x => nI (sA_tm A (x / 3) (x % 3))) (3 * i + s) (nI v)))) = rw_ X G (sU_tm A (va_up (sA_tm A) i (va_up (sA_tm A i) s v))) := by
  rw [upd_33n _ hs]
  rfl
theorem rw_s_lm {v : Nat} (hs : s < 3) : (rw_ X G A).set 4 (rA_ad G 4, .inl (x_I X, aI 6 (upd (fun x => nI (sA_lm A (x / 3) (x % 3))) (3 * i + s) (nI v)))) = rw_ X G (sU_lm A (va_up (sA_lm A) i (va_up (sA_lm A i) s v))) := by
  rw [upd_33n _ hs]
  rfl
end RW

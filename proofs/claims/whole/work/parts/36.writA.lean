abbrev rm_Y_turn : Room := { frames := 0, cells := 0, slots := 0, locals := 0 }
def g_Y_turn (G : Gc) (A : St) (q : Nat) : Gc × St :=
  (G, (sU_dn A (sA_dn A ^^^ 2 ^ q)))
set_option maxRecDepth 20000 in
set_option maxHeartbeats 4000000 in
theorem c_Y_turn (l : Launch) (X : Xt) (G : Gc) (A : St) (Af : Nat → Prop) (q : Nat) (hd : sA_dn A < 16) (hq : q < 4) : Met l y_Y_turn (Cond.code y_Y_turn b_Y_turn 2 none :: WA) rm_Y_turn (va_Pc [.ref (gA_ad G 1), .int (nI q)] (fun U => PW X Af G A U.heap ∧ KK X U)) (va_Qv (fun u => u = g_Y_turn G A q) (atC X Af) Af) 0 0 Af := by
  refine vx_met (cc := b_Y_turn) (maxL := 2) (ret := none) (by decide) rfl (Nat.le_of_ble_eq_true rfl) ?_
  intro p e s m below meth c ls hx hb hrt hts hown hlocks hname hml hB hl
  obtain ⟨hP, hK⟩ := hB
  have hown : s.vm.findClass R_Ways = some m.cls := hown
  have hl : lv_has ls 2 [(0, .ref (gA_ad G 1)), (1, .int (nI q))] := hl
  have hD : va_D Af (cw X G A) := hP.2
  have hP : va_P X.1 classes (cw X G A) s.heap := hP.1
  have hS : va_S Af s.heap s.heap [] := va_S.rf
  refine lv_aload_n hx hb d_Y_turn_0 rfl (lv_at hl 0 rfl) ?_
  refine lv_dup hx hb d_Y_turn_1 rfl ?_
  refine va_get (D := X.1) (ci := 1) (C := R_Ways) (T := F_Ways) (N := 2) hx hb hts hin_Ways hown hK.1 hP 1 cw_1 rfl 1 (by decide) (hts _ (wd_1 48 rfl rfl)) (fun _ h9 => h9) rfl d_Y_turn_2 ?_
  refine lv_iconst (v := 1) hx hb d_Y_turn_5 rfl ?_
  refine lv_iload_n hx hb d_Y_turn_6 rfl (lv_at hl 1 rfl) ?_
  refine lv_ishl hx hb d_Y_turn_7 ?_
  refine lv_ixor hx hb d_Y_turn_8 ?_
  rw [turn_nI _ hd _ hq]
  refine va_put (D := X.1) (ci := 1) (v := .int (nI (sA_dn A ^^^ 2 ^ q))) (ty := .int) (C := R_Ways) (T := F_Ways) (N := 2) hx hb hts hin_Ways t_Ways t_Ways_ok n_Ways hown hK.1 hP hD hS 1 cw_1 rfl 1 (by decide) (hts _ (wd_1 48 rfl rfl)) (fun _ h9 => h9) rfl (by decide +kernel) rfl rfl (Nat.le_of_ble_eq_true rfl) d_Y_turn_9 (fun H locs hP hD hS => ?_)
  replace hP := vx_P (cw_s_dn (X := X) (G := G) (A := A) (v := (sA_dn A ^^^ 2 ^ q))) hP
  replace hD := vx_D (cw_s_dn (X := X) (G := G) (A := A) (v := (sA_dn A ^^^ 2 ^ q))) hD
  exact W.vret hx hb hrt (fun t ht hW => ⟨⟨(G, (sU_dn A (sA_dn A ^^^ 2 ^ q))), rfl, by rw [g_Y_turn], ⟨by rw [ht]; exact hP, hD⟩⟩, hS.F ht⟩) hS.2.2 d_Y_turn_12
abbrev rm_U_append : Room := { frames := 0, cells := 0, slots := 0, locals := 0 }
def g_U_append (G : Gc) (A : St) (r : Nat) (a : Nat) (b : Nat) (d : Nat) : Gc × St :=
  if 3 ≤ (nI (sA_len A r)) then
    (G, A)
  else
    (G, (sU_len (sU_lm (sU_tm (sU_mk A (va_up (sA_mk A) r (va_up (sA_mk A r) (sA_len A r) a))) (va_up (sA_tm A) r (va_up (sA_tm A r) (sA_len A r) b))) (va_up (sA_lm A) r (va_up (sA_lm A r) (sA_len A r) d))) (va_up (sA_len A) r (sA_len A r + 1))))
set_option maxRecDepth 20000 in
set_option maxHeartbeats 4000000 in
theorem c_U_append (l : Launch) (X : Xt) (G : Gc) (A : St) (Af : Nat → Prop) (r : Nat) (hr : r < 2) (a : Nat) (b : Nat) (d : Nat) (hR : rOk A) : Met l y_U_append (Cond.code y_U_append b_U_append 4 none :: WA) rm_U_append (va_Pc [.ref (gA_ad G (8 + 4 * r)), .int (nI a), .int (nI b), .int (nI d)] (fun U => PW X Af G A U.heap ∧ KK X U)) (va_Qv (fun u => u = g_U_append G A r a b d) (atC X Af) Af) 0 0 Af := by
  refine vx_met (cc := b_U_append) (maxL := 4) (ret := none) (by decide) rfl (Nat.le_of_ble_eq_true rfl) ?_
  intro p e s m below meth c ls hx hb hrt hts hown hlocks hname hml hB hl
  obtain ⟨hP, hK⟩ := hB
  have hown : s.vm.findClass R_Route = some m.cls := hown
  have hl : lv_has ls 4 [(0, .ref (gA_ad G (8 + 4 * r))), (1, .int (nI a)), (2, .int (nI b)), (3, .int (nI d))] := hl
  have hD : va_D Af (cw X G A) := hP.2
  have hP : va_P X.1 classes (cw X G A) s.heap := hP.1
  have hS : va_S Af s.heap s.heap [] := va_S.rf
  refine lv_aload_n hx hb d_U_append_0 rfl (lv_at hl 0 rfl) ?_
  refine va_get (D := X.1) (ci := 4) (C := R_Route) (T := F_Route) (N := 4) hx hb hts hin_Route hown hK.1 hP (8 + 4 * r) (cw_r hr) rfl 3 (by decide) (hts _ (wd_1 35 rfl rfl)) (fun _ h9 => h9) rfl d_U_append_1 ?_
  refine lv_iconst (v := 3) hx hb d_U_append_4 rfl ?_
  refine lv_icmp_ge (tgt := 48) hx hb d_U_append_5 rfl (fun h5 => ?_) (fun h5 => ?_)
  ·
    exact W.vret hx hb hrt (fun t ht hW => ⟨⟨(G, A), rfl, by rw [g_U_append, if_pos h5], ⟨by rw [ht]; exact hP, hD⟩⟩, hS.F ht⟩) hS.2.2 d_U_append_48
  ·
    have hl3 : sA_len A r < 3 := lt_of_nle (k := 3) h5 (by have := hR.1 r; omega)
    refine lv_aload_n hx hb d_U_append_8 rfl (lv_at hl 0 rfl) ?_
    refine va_get (D := X.1) (ci := 4) (C := R_Route) (T := F_Route) (N := 4) hx hb hts hin_Route hown hK.1 hP (8 + 4 * r) (cw_r hr) rfl 0 (by decide) (hts _ (wd_1 32 rfl rfl)) (fun _ h9 => h9) rfl d_U_append_9 ?_
    refine lv_aload_n hx hb d_U_append_12 rfl (lv_at hl 0 rfl) ?_
    refine va_get (D := X.1) (ci := 4) (C := R_Route) (T := F_Route) (N := 4) hx hb hts hin_Route hown hK.1 hP (8 + 4 * r) (cw_r hr) rfl 3 (by decide) (hts _ (wd_1 35 rfl rfl)) (fun _ h9 => h9) rfl d_U_append_13 ?_
    refine lv_iload_n hx hb d_U_append_16 rfl (lv_at hl 1 rfl) ?_
    refine va_iast hx hb hK.1 hP hD hS (9 + 4 * r) 0 (cw_rm hr) rfl (vp_in_nI hl3 (by omega)) d_U_append_17 (fun H locs hP hD hS => ?_)
    rw [nI_clamp (n := sA_len A r) (by omega)] at hP hD
    replace hP := vx_P (cw_s_mk (X := X) (G := G) (A := A) (r := r) (k := sA_len A r) (v := a) hr) hP
    replace hD := vx_D (cw_s_mk (X := X) (G := G) (A := A) (r := r) (k := sA_len A r) (v := a) hr) hD
    refine lv_aload_n hx hb d_U_append_18 rfl (lv_at hl 0 rfl) ?_
    refine va_get (D := X.1) (ci := 4) (C := R_Route) (T := F_Route) (N := 4) hx hb hts hin_Route hown hK.1 hP (8 + 4 * r) (cw_r hr) rfl 1 (by decide) (hts _ (wd_1 33 rfl rfl)) (fun _ h9 => h9) rfl d_U_append_19 ?_
    refine lv_aload_n hx hb d_U_append_22 rfl (lv_at hl 0 rfl) ?_
    refine va_get (D := X.1) (ci := 4) (C := R_Route) (T := F_Route) (N := 4) hx hb hts hin_Route hown hK.1 hP (8 + 4 * r) (cw_r hr) rfl 3 (by decide) (hts _ (wd_1 35 rfl rfl)) (fun _ h9 => h9) rfl d_U_append_23 ?_
    refine lv_iload_n hx hb d_U_append_26 rfl (lv_at hl 2 rfl) ?_
    refine va_iast hx hb hK.1 hP hD hS (10 + 4 * r) 0 (cw_rt hr) rfl (vp_in_nI hl3 (by omega)) d_U_append_27 (fun H locs hP hD hS => ?_)
    rw [nI_clamp (n := sA_len A r) (by omega)] at hP hD
    replace hP := vx_P (cw_s_tm (X := X) (G := G) (A := (sU_mk A (va_up (sA_mk A) r (va_up (sA_mk A r) (sA_len A r) a)))) (r := r) (k := sA_len A r) (v := b) hr) hP
    replace hD := vx_D (cw_s_tm (X := X) (G := G) (A := (sU_mk A (va_up (sA_mk A) r (va_up (sA_mk A r) (sA_len A r) a)))) (r := r) (k := sA_len A r) (v := b) hr) hD
    refine lv_aload_n hx hb d_U_append_28 rfl (lv_at hl 0 rfl) ?_
    refine va_get (D := X.1) (ci := 4) (C := R_Route) (T := F_Route) (N := 4) hx hb hts hin_Route hown hK.1 hP (8 + 4 * r) (cw_r hr) rfl 2 (by decide) (hts _ (wd_1 34 rfl rfl)) (fun _ h9 => h9) rfl d_U_append_29 ?_
    refine lv_aload_n hx hb d_U_append_32 rfl (lv_at hl 0 rfl) ?_
    refine va_get (D := X.1) (ci := 4) (C := R_Route) (T := F_Route) (N := 4) hx hb hts hin_Route hown hK.1 hP (8 + 4 * r) (cw_r hr) rfl 3 (by decide) (hts _ (wd_1 35 rfl rfl)) (fun _ h9 => h9) rfl d_U_append_33 ?_
    refine lv_iload_n hx hb d_U_append_36 rfl (lv_at hl 3 rfl) ?_
    refine va_iast hx hb hK.1 hP hD hS (11 + 4 * r) 0 (cw_rl hr) rfl (vp_in_nI hl3 (by omega)) d_U_append_37 (fun H locs hP hD hS => ?_)
    rw [nI_clamp (n := sA_len A r) (by omega)] at hP hD
    replace hP := vx_P (cw_s_lm (X := X) (G := G) (A := (sU_tm (sU_mk A (va_up (sA_mk A) r (va_up (sA_mk A r) (sA_len A r) a))) (va_up (sA_tm A) r (va_up (sA_tm A r) (sA_len A r) b)))) (r := r) (k := sA_len A r) (v := d) hr) hP
    replace hD := vx_D (cw_s_lm (X := X) (G := G) (A := (sU_tm (sU_mk A (va_up (sA_mk A) r (va_up (sA_mk A r) (sA_len A r) a))) (va_up (sA_tm A) r (va_up (sA_tm A r) (sA_len A r) b)))) (r := r) (k := sA_len A r) (v := d) hr) hD
    refine lv_aload_n hx hb d_U_append_38 rfl (lv_at hl 0 rfl) ?_
    refine lv_dup hx hb d_U_append_39 rfl ?_
    refine va_get (D := X.1) (ci := 4) (C := R_Route) (T := F_Route) (N := 4) hx hb hts hin_Route hown hK.1 hP (8 + 4 * r) (cw_r hr) rfl 3 (by decide) (hts _ (wd_1 35 rfl rfl)) (fun _ h9 => h9) rfl d_U_append_40 ?_
    refine lv_iconst (v := 1) hx hb d_U_append_43 rfl ?_
    refine lv_iadd hx hb d_U_append_44 ?_
    rw [nI_1]
    refine va_put (D := X.1) (ci := 4) (v := .int (nI (sA_len A r + 1))) (ty := .int) (C := R_Route) (T := F_Route) (N := 4) hx hb hts hin_Route t_Route t_Route_ok n_Route hown hK.1 hP hD hS (8 + 4 * r) (cw_r hr) rfl 3 (by decide) (hts _ (wd_1 35 rfl rfl)) (fun _ h9 => h9) rfl (by decide +kernel) rfl rfl (Nat.le_of_ble_eq_true rfl) d_U_append_45 (fun H locs hP hD hS => ?_)
    replace hP := vx_P (cw_s_len (X := X) (G := G) (A := (sU_lm (sU_tm (sU_mk A (va_up (sA_mk A) r (va_up (sA_mk A r) (sA_len A r) a))) (va_up (sA_tm A) r (va_up (sA_tm A r) (sA_len A r) b))) (va_up (sA_lm A) r (va_up (sA_lm A r) (sA_len A r) d)))) (r := r) (v := (sA_len A r + 1)) hr) hP
    replace hD := vx_D (cw_s_len (X := X) (G := G) (A := (sU_lm (sU_tm (sU_mk A (va_up (sA_mk A) r (va_up (sA_mk A r) (sA_len A r) a))) (va_up (sA_tm A) r (va_up (sA_tm A r) (sA_len A r) b))) (va_up (sA_lm A) r (va_up (sA_lm A r) (sA_len A r) d)))) (r := r) (v := (sA_len A r + 1)) hr) hD
    exact W.vret hx hb hrt (fun t ht hW => ⟨⟨(G, (sU_len (sU_lm (sU_tm (sU_mk A (va_up (sA_mk A) r (va_up (sA_mk A r) (sA_len A r) a))) (va_up (sA_tm A) r (va_up (sA_tm A r) (sA_len A r) b))) (va_up (sA_lm A) r (va_up (sA_lm A r) (sA_len A r) d))) (va_up (sA_len A) r (sA_len A r + 1)))), rfl, by rw [g_U_append, if_neg h5], ⟨by rw [ht]; exact hP, hD⟩⟩, hS.F ht⟩) hS.2.2 d_U_append_48
abbrev rm_W_arrive : Room := { frames := 0, cells := 0, slots := 0, locals := 0 }
def g_W_arrive (G : Gc) (A : St) (i : Nat) (q : Nat) : Gc × St :=
  if (nI q) = 5 then
    ((gU_fi (gU_wt G (va_up (gA_wt G) i 0)) (va_up (gA_fi G) i true)), (sU_pl A (va_up (sA_pl A) i q)))
  else
    ((gU_fi (gU_wt G (va_up (gA_wt G) i 0)) (va_up (gA_fi G) i false)), (sU_pl A (va_up (sA_pl A) i q)))
set_option maxRecDepth 20000 in
set_option maxHeartbeats 4000000 in
theorem c_W_arrive (l : Launch) (X : Xt) (G : Gc) (A : St) (Af : Nat → Prop) (i : Nat) (hi : i < sA_n A) (q : Nat) : Met l y_W_arrive (Cond.code y_W_arrive b_W_arrive 2 none :: WA) rm_W_arrive (va_Pc [.ref (gA_ad G (18 + 4 * i)), .int (nI q)] (fun U => PW X Af G A U.heap ∧ KK X U)) (va_Qv (fun u => u = g_W_arrive G A i q) (atC X Af) Af) 0 0 Af := by
  refine vx_met (cc := b_W_arrive) (maxL := 2) (ret := none) (by decide) rfl (Nat.le_of_ble_eq_true rfl) ?_
  intro p e s m below meth c ls hx hb hrt hts hown hlocks hname hml hB hl
  obtain ⟨hP, hK⟩ := hB
  have hown : s.vm.findClass R_Wafer = some m.cls := hown
  have hl : lv_has ls 2 [(0, .ref (gA_ad G (18 + 4 * i))), (1, .int (nI q))] := hl
  have hD : va_D Af (cw X G A) := hP.2
  have hP : va_P X.1 classes (cw X G A) s.heap := hP.1
  have hS : va_S Af s.heap s.heap [] := va_S.rf
  refine lv_aload_n hx hb d_W_arrive_0 rfl (lv_at hl 0 rfl) ?_
  refine lv_iload_n hx hb d_W_arrive_1 rfl (lv_at hl 1 rfl) ?_
  refine va_put (D := X.1) (ci := 5) (v := .int (nI q)) (ty := .int) (C := R_Wafer) (T := F_Wafer) (N := 10) hx hb hts hin_Wafer t_Wafer t_Wafer_ok n_Wafer hown hK.1 hP hD hS (18 + 4 * i) (cw_w hi) rfl 4 (by decide) (hts _ (wd_1 143 rfl rfl)) (fun _ h9 => h9) rfl (by decide +kernel) rfl rfl (Nat.le_of_ble_eq_true rfl) d_W_arrive_2 (fun H locs hP hD hS => ?_)
  replace hP := vx_P (cw_s_pl (X := X) (G := G) (A := A) (i := i) (v := q)) hP
  replace hD := vx_D (cw_s_pl (X := X) (G := G) (A := A) (i := i) (v := q)) hD
  refine lv_aload_n hx hb d_W_arrive_5 rfl (lv_at hl 0 rfl) ?_
  refine lv_iconst (v := 0) hx hb d_W_arrive_6 rfl ?_
  refine va_put (D := X.1) (ci := 5) (v := .int 0) (ty := .int) (C := R_Wafer) (T := F_Wafer) (N := 10) hx hb hts hin_Wafer t_Wafer t_Wafer_ok n_Wafer hown hK.1 hP hD hS (18 + 4 * i) (cw_w hi) rfl 7 (by decide) (hts _ (wd_1 149 rfl rfl)) (fun _ h9 => h9) rfl (by decide +kernel) rfl rfl (Nat.le_of_ble_eq_true rfl) d_W_arrive_7 (fun H locs hP hD hS => ?_)
  replace hP := vx_P (cw_s_wt (X := X) (G := G) (A := (sU_pl A (va_up (sA_pl A) i q))) (i := i) (v := 0)) hP
  replace hD := vx_D (cw_s_wt (X := X) (G := G) (A := (sU_pl A (va_up (sA_pl A) i q))) (i := i) (v := 0)) hD
  refine lv_aload_n hx hb d_W_arrive_10 rfl (lv_at hl 0 rfl) ?_
  refine lv_iload_n hx hb d_W_arrive_11 rfl (lv_at hl 1 rfl) ?_
  refine lv_iconst (v := 5) hx hb d_W_arrive_12 rfl ?_
  refine lv_icmp_ne (tgt := 20) hx hb d_W_arrive_13 rfl (fun h13 => ?_) (fun h13 => ?_)
  ·
    refine lv_iconst (v := 0) hx hb d_W_arrive_20 rfl ?_
    refine va_put (D := X.1) (ci := 5) (v := .int (b2i false)) (ty := .boolean) (C := R_Wafer) (T := F_Wafer) (N := 10) hx hb hts hin_Wafer t_Wafer t_Wafer_ok n_Wafer hown hK.1 hP hD hS (18 + 4 * i) (cw_w hi) rfl 8 (by decide) (hts _ (wd_1 151 rfl rfl)) (fun _ h9 => h9) rfl (by decide +kernel) (b2i_nar _) (b2i_fit _) (Nat.le_of_ble_eq_true rfl) d_W_arrive_21 (fun H locs hP hD hS => ?_)
    replace hP := vx_P (cw_s_fi (X := X) (G := (gU_wt G (va_up (gA_wt G) i 0))) (A := (sU_pl A (va_up (sA_pl A) i q))) (i := i) (v := false)) hP
    replace hD := vx_D (cw_s_fi (X := X) (G := (gU_wt G (va_up (gA_wt G) i 0))) (A := (sU_pl A (va_up (sA_pl A) i q))) (i := i) (v := false)) hD
    exact W.vret hx hb hrt (fun t ht hW => ⟨⟨((gU_fi (gU_wt G (va_up (gA_wt G) i 0)) (va_up (gA_fi G) i false)), (sU_pl A (va_up (sA_pl A) i q))), rfl, by rw [g_W_arrive, if_neg h13], ⟨by rw [ht]; exact hP, hD⟩⟩, hS.F ht⟩) hS.2.2 d_W_arrive_24
  ·
    refine lv_iconst (v := 1) hx hb d_W_arrive_16 rfl ?_
    refine lv_goto (tgt := 21) hx hb d_W_arrive_17 rfl ?_
    refine va_put (D := X.1) (ci := 5) (v := .int (b2i true)) (ty := .boolean) (C := R_Wafer) (T := F_Wafer) (N := 10) hx hb hts hin_Wafer t_Wafer t_Wafer_ok n_Wafer hown hK.1 hP hD hS (18 + 4 * i) (cw_w hi) rfl 8 (by decide) (hts _ (wd_1 151 rfl rfl)) (fun _ h9 => h9) rfl (by decide +kernel) (b2i_nar _) (b2i_fit _) (Nat.le_of_ble_eq_true rfl) d_W_arrive_21 (fun H locs hP hD hS => ?_)
    replace hP := vx_P (cw_s_fi (X := X) (G := (gU_wt G (va_up (gA_wt G) i 0))) (A := (sU_pl A (va_up (sA_pl A) i q))) (i := i) (v := true)) hP
    replace hD := vx_D (cw_s_fi (X := X) (G := (gU_wt G (va_up (gA_wt G) i 0))) (A := (sU_pl A (va_up (sA_pl A) i q))) (i := i) (v := true)) hD
    exact W.vret hx hb hrt (fun t ht hW => ⟨⟨((gU_fi (gU_wt G (va_up (gA_wt G) i 0)) (va_up (gA_fi G) i true)), (sU_pl A (va_up (sA_pl A) i q))), rfl, by rw [g_W_arrive, if_pos h13], ⟨by rw [ht]; exact hP, hD⟩⟩, hS.F ht⟩) hS.2.2 d_W_arrive_24
abbrev rm_W_begin : Room := { frames := 0, cells := 0, slots := 0, locals := 0 }
def g_W_begin (G : Gc) (A : St) (i : Nat) (a : Nat) (k : Int32) : Gc × St :=
  if 3 ≤ (nI (sA_sg A i)) then
    (G, A)
  else
    (G, (sU_sg (sU_lf (sU_en (sU_be (sU_ch A (va_up (sA_ch A) i (upd (sA_ch A i) (sA_sg A i) (nI (sA_pl A i))))) (va_up (sA_be A) i (upd (sA_be A i) (sA_sg A i) k))) (va_up (sA_en A) i (upd (sA_en A i) (sA_sg A i) (-1)))) (va_up (sA_lf A) i a)) (va_up (sA_sg A) i (sA_sg A i + 1))))
set_option maxRecDepth 20000 in
set_option maxHeartbeats 4000000 in
theorem c_W_begin (l : Launch) (X : Xt) (G : Gc) (A : St) (Af : Nat → Prop) (i : Nat) (hi : i < sA_n A) (a : Nat) (k : Int32) (hg : sA_sg A i ≤ 3) : Met l y_W_begin (Cond.code y_W_begin b_W_begin 3 none :: WA) rm_W_begin (va_Pc [.ref (gA_ad G (18 + 4 * i)), .int (nI a), .int k] (fun U => PW X Af G A U.heap ∧ KK X U)) (va_Qv (fun u => u = g_W_begin G A i a k) (atC X Af) Af) 0 0 Af := by
  refine vx_met (cc := b_W_begin) (maxL := 3) (ret := none) (by decide) rfl (Nat.le_of_ble_eq_true rfl) ?_
  intro p e s m below meth c ls hx hb hrt hts hown hlocks hname hml hB hl
  obtain ⟨hP, hK⟩ := hB
  have hown : s.vm.findClass R_Wafer = some m.cls := hown
  have hl : lv_has ls 3 [(0, .ref (gA_ad G (18 + 4 * i))), (1, .int (nI a)), (2, .int k)] := hl
  have hD : va_D Af (cw X G A) := hP.2
  have hP : va_P X.1 classes (cw X G A) s.heap := hP.1
  have hS : va_S Af s.heap s.heap [] := va_S.rf
  refine lv_aload_n hx hb d_W_begin_0 rfl (lv_at hl 0 rfl) ?_
  refine va_get (D := X.1) (ci := 5) (C := R_Wafer) (T := F_Wafer) (N := 10) hx hb hts hin_Wafer hown hK.1 hP (18 + 4 * i) (cw_w hi) rfl 5 (by decide) (hts _ (wd_1 145 rfl rfl)) (fun _ h9 => h9) rfl d_W_begin_1 ?_
  refine lv_iconst (v := 3) hx hb d_W_begin_4 rfl ?_
  refine lv_icmp_ge (tgt := 56) hx hb d_W_begin_5 rfl (fun h5 => ?_) (fun h5 => ?_)
  ·
    exact W.vret hx hb hrt (fun t ht hW => ⟨⟨(G, A), rfl, by rw [g_W_begin, if_pos h5], ⟨by rw [ht]; exact hP, hD⟩⟩, hS.F ht⟩) hS.2.2 d_W_begin_56
  ·
    have hg3 : sA_sg A i < 3 := lt_of_nle (k := 3) h5 (by omega)
    refine lv_aload_n hx hb d_W_begin_8 rfl (lv_at hl 0 rfl) ?_
    refine va_get (D := X.1) (ci := 5) (C := R_Wafer) (T := F_Wafer) (N := 10) hx hb hts hin_Wafer hown hK.1 hP (18 + 4 * i) (cw_w hi) rfl 1 (by decide) (hts _ (wd_1 137 rfl rfl)) (fun _ h9 => h9) rfl d_W_begin_9 ?_
    refine lv_aload_n hx hb d_W_begin_12 rfl (lv_at hl 0 rfl) ?_
    refine va_get (D := X.1) (ci := 5) (C := R_Wafer) (T := F_Wafer) (N := 10) hx hb hts hin_Wafer hown hK.1 hP (18 + 4 * i) (cw_w hi) rfl 5 (by decide) (hts _ (wd_1 145 rfl rfl)) (fun _ h9 => h9) rfl d_W_begin_13 ?_
    refine lv_aload_n hx hb d_W_begin_16 rfl (lv_at hl 0 rfl) ?_
    refine va_get (D := X.1) (ci := 5) (C := R_Wafer) (T := F_Wafer) (N := 10) hx hb hts hin_Wafer hown hK.1 hP (18 + 4 * i) (cw_w hi) rfl 4 (by decide) (hts _ (wd_1 143 rfl rfl)) (fun _ h9 => h9) rfl d_W_begin_17 ?_
    refine va_iast hx hb hK.1 hP hD hS (18 + 4 * i + 1) 0 (cw_wc hi) rfl (vp_in_nI hg3 (by omega)) d_W_begin_20 (fun H locs hP hD hS => ?_)
    rw [nI_clamp (n := sA_sg A i) (by omega)] at hP hD
    replace hP := vx_P (cw_s_ch (X := X) (G := G) (A := A) (i := i) (k := sA_sg A i) (x := nI (sA_pl A i))) hP
    replace hD := vx_D (cw_s_ch (X := X) (G := G) (A := A) (i := i) (k := sA_sg A i) (x := nI (sA_pl A i))) hD
    refine lv_aload_n hx hb d_W_begin_21 rfl (lv_at hl 0 rfl) ?_
    refine va_get (D := X.1) (ci := 5) (C := R_Wafer) (T := F_Wafer) (N := 10) hx hb hts hin_Wafer hown hK.1 hP (18 + 4 * i) (cw_w hi) rfl 2 (by decide) (hts _ (wd_1 139 rfl rfl)) (fun _ h9 => h9) rfl d_W_begin_22 ?_
    refine lv_aload_n hx hb d_W_begin_25 rfl (lv_at hl 0 rfl) ?_
    refine va_get (D := X.1) (ci := 5) (C := R_Wafer) (T := F_Wafer) (N := 10) hx hb hts hin_Wafer hown hK.1 hP (18 + 4 * i) (cw_w hi) rfl 5 (by decide) (hts _ (wd_1 145 rfl rfl)) (fun _ h9 => h9) rfl d_W_begin_26 ?_
    refine lv_iload_n hx hb d_W_begin_29 rfl (lv_at hl 2 rfl) ?_
    refine va_iast hx hb hK.1 hP hD hS (18 + 4 * i + 2) 0 (cw_wb hi) rfl (vp_in_nI hg3 (by omega)) d_W_begin_30 (fun H locs hP hD hS => ?_)
    rw [nI_clamp (n := sA_sg A i) (by omega)] at hP hD
    replace hP := vx_P (cw_s_be (X := X) (G := G) (A := (sU_ch A (va_up (sA_ch A) i (upd (sA_ch A i) (sA_sg A i) (nI (sA_pl A i)))))) (i := i) (k := sA_sg A i) (x := k)) hP
    replace hD := vx_D (cw_s_be (X := X) (G := G) (A := (sU_ch A (va_up (sA_ch A) i (upd (sA_ch A i) (sA_sg A i) (nI (sA_pl A i)))))) (i := i) (k := sA_sg A i) (x := k)) hD
    refine lv_aload_n hx hb d_W_begin_31 rfl (lv_at hl 0 rfl) ?_
    refine va_get (D := X.1) (ci := 5) (C := R_Wafer) (T := F_Wafer) (N := 10) hx hb hts hin_Wafer hown hK.1 hP (18 + 4 * i) (cw_w hi) rfl 3 (by decide) (hts _ (wd_1 141 rfl rfl)) (fun _ h9 => h9) rfl d_W_begin_32 ?_
    refine lv_aload_n hx hb d_W_begin_35 rfl (lv_at hl 0 rfl) ?_
    refine va_get (D := X.1) (ci := 5) (C := R_Wafer) (T := F_Wafer) (N := 10) hx hb hts hin_Wafer hown hK.1 hP (18 + 4 * i) (cw_w hi) rfl 5 (by decide) (hts _ (wd_1 145 rfl rfl)) (fun _ h9 => h9) rfl d_W_begin_36 ?_
    refine lv_iconst (v := (-1)) hx hb d_W_begin_39 rfl ?_
    refine va_iast hx hb hK.1 hP hD hS (18 + 4 * i + 3) 0 (cw_we hi) rfl (vp_in_nI hg3 (by omega)) d_W_begin_40 (fun H locs hP hD hS => ?_)
    rw [nI_clamp (n := sA_sg A i) (by omega)] at hP hD
    replace hP := vx_P (cw_s_en (X := X) (G := G) (A := (sU_be (sU_ch A (va_up (sA_ch A) i (upd (sA_ch A i) (sA_sg A i) (nI (sA_pl A i))))) (va_up (sA_be A) i (upd (sA_be A i) (sA_sg A i) k)))) (i := i) (k := sA_sg A i) (x := (-1))) hP
    replace hD := vx_D (cw_s_en (X := X) (G := G) (A := (sU_be (sU_ch A (va_up (sA_ch A) i (upd (sA_ch A i) (sA_sg A i) (nI (sA_pl A i))))) (va_up (sA_be A) i (upd (sA_be A i) (sA_sg A i) k)))) (i := i) (k := sA_sg A i) (x := (-1))) hD
    refine lv_aload_n hx hb d_W_begin_41 rfl (lv_at hl 0 rfl) ?_
    refine lv_iload_n hx hb d_W_begin_42 rfl (lv_at hl 1 rfl) ?_
    refine va_put (D := X.1) (ci := 5) (v := .int (nI a)) (ty := .int) (C := R_Wafer) (T := F_Wafer) (N := 10) hx hb hts hin_Wafer t_Wafer t_Wafer_ok n_Wafer hown hK.1 hP hD hS (18 + 4 * i) (cw_w hi) rfl 6 (by decide) (hts _ (wd_1 147 rfl rfl)) (fun _ h9 => h9) rfl (by decide +kernel) rfl rfl (Nat.le_of_ble_eq_true rfl) d_W_begin_43 (fun H locs hP hD hS => ?_)
    replace hP := vx_P (cw_s_lf (X := X) (G := G) (A := (sU_en (sU_be (sU_ch A (va_up (sA_ch A) i (upd (sA_ch A i) (sA_sg A i) (nI (sA_pl A i))))) (va_up (sA_be A) i (upd (sA_be A i) (sA_sg A i) k))) (va_up (sA_en A) i (upd (sA_en A i) (sA_sg A i) (-1))))) (i := i) (v := a)) hP
    replace hD := vx_D (cw_s_lf (X := X) (G := G) (A := (sU_en (sU_be (sU_ch A (va_up (sA_ch A) i (upd (sA_ch A i) (sA_sg A i) (nI (sA_pl A i))))) (va_up (sA_be A) i (upd (sA_be A i) (sA_sg A i) k))) (va_up (sA_en A) i (upd (sA_en A i) (sA_sg A i) (-1))))) (i := i) (v := a)) hD
    refine lv_aload_n hx hb d_W_begin_46 rfl (lv_at hl 0 rfl) ?_
    refine lv_dup hx hb d_W_begin_47 rfl ?_
    refine va_get (D := X.1) (ci := 5) (C := R_Wafer) (T := F_Wafer) (N := 10) hx hb hts hin_Wafer hown hK.1 hP (18 + 4 * i) (cw_w hi) rfl 5 (by decide) (hts _ (wd_1 145 rfl rfl)) (fun _ h9 => h9) rfl d_W_begin_48 ?_
    refine lv_iconst (v := 1) hx hb d_W_begin_51 rfl ?_
    refine lv_iadd hx hb d_W_begin_52 ?_
    rw [nI_1]
    refine va_put (D := X.1) (ci := 5) (v := .int (nI (sA_sg A i + 1))) (ty := .int) (C := R_Wafer) (T := F_Wafer) (N := 10) hx hb hts hin_Wafer t_Wafer t_Wafer_ok n_Wafer hown hK.1 hP hD hS (18 + 4 * i) (cw_w hi) rfl 5 (by decide) (hts _ (wd_1 145 rfl rfl)) (fun _ h9 => h9) rfl (by decide +kernel) rfl rfl (Nat.le_of_ble_eq_true rfl) d_W_begin_53 (fun H locs hP hD hS => ?_)
    replace hP := vx_P (cw_s_sg (X := X) (G := G) (A := (sU_lf (sU_en (sU_be (sU_ch A (va_up (sA_ch A) i (upd (sA_ch A i) (sA_sg A i) (nI (sA_pl A i))))) (va_up (sA_be A) i (upd (sA_be A i) (sA_sg A i) k))) (va_up (sA_en A) i (upd (sA_en A i) (sA_sg A i) (-1)))) (va_up (sA_lf A) i a))) (i := i) (v := (sA_sg A i + 1))) hP
    replace hD := vx_D (cw_s_sg (X := X) (G := G) (A := (sU_lf (sU_en (sU_be (sU_ch A (va_up (sA_ch A) i (upd (sA_ch A i) (sA_sg A i) (nI (sA_pl A i))))) (va_up (sA_be A) i (upd (sA_be A i) (sA_sg A i) k))) (va_up (sA_en A) i (upd (sA_en A i) (sA_sg A i) (-1)))) (va_up (sA_lf A) i a))) (i := i) (v := (sA_sg A i + 1))) hD
    exact W.vret hx hb hrt (fun t ht hW => ⟨⟨(G, (sU_sg (sU_lf (sU_en (sU_be (sU_ch A (va_up (sA_ch A) i (upd (sA_ch A i) (sA_sg A i) (nI (sA_pl A i))))) (va_up (sA_be A) i (upd (sA_be A i) (sA_sg A i) k))) (va_up (sA_en A) i (upd (sA_en A i) (sA_sg A i) (-1)))) (va_up (sA_lf A) i a)) (va_up (sA_sg A) i (sA_sg A i + 1)))), rfl, by rw [g_W_begin, if_neg h5], ⟨by rw [ht]; exact hP, hD⟩⟩, hS.F ht⟩) hS.2.2 d_W_begin_56
abbrev rm_W_spend : Room := { frames := 1, cells := 0, slots := 0, locals := 21 }
def g_W_spend (G : Gc) (A : St) (i : Nat) (a : Nat) (k : Int32) : Gc × St :=
  if (nI (min (sA_lf A i) a)) ≤ 0 then
    ((gU_wt G (va_up (gA_wt G) i ((gA_wt G i) + (nI (a - min (sA_lf A i) a))))), (sU_lf A (va_up (sA_lf A) i (sA_lf A i - min (sA_lf A i) a))))
  else
    if (nI (min (sA_lf A i) a)) = (nI (sA_lf A i)) then
      if (nI (sA_sg A i)) ≤ 0 then
        ((gU_wt G (va_up (gA_wt G) i ((gA_wt G i) + (nI (a - min (sA_lf A i) a))))), (sU_lf A (va_up (sA_lf A) i (sA_lf A i - min (sA_lf A i) a))))
      else
        ((gU_wt G (va_up (gA_wt G) i ((gA_wt G i) + (nI (a - min (sA_lf A i) a))))), (sU_lf (sU_en A (va_up (sA_en A) i (upd (sA_en A i) (sA_sg A i - 1) (k + (nI (min (sA_lf A i) a)))))) (va_up (sA_lf A) i (sA_lf A i - min (sA_lf A i) a))))
    else
      ((gU_wt G (va_up (gA_wt G) i ((gA_wt G i) + (nI (a - min (sA_lf A i) a))))), (sU_lf A (va_up (sA_lf A) i (sA_lf A i - min (sA_lf A i) a))))
set_option maxRecDepth 20000 in
set_option maxHeartbeats 4000000 in
theorem c_W_spend (l : Launch) (X : Xt) (G : Gc) (A : St) (Af : Nat → Prop) (i : Nat) (hi : i < sA_n A) (a : Nat) (k : Int32) (hg : sA_sg A i ≤ 3) (hf : sA_lf A i ≤ 100) (ha : a ≤ 200) : Met l y_W_spend (Cond.code y_W_spend b_W_spend 4 none :: WA) rm_W_spend (va_Pc [.ref (gA_ad G (18 + 4 * i)), .int (nI a), .int k] (fun U => PW X Af G A U.heap ∧ KK X U)) (va_Qv (fun u => u = g_W_spend G A i a k) (atC X Af) Af) 0 0 Af := by
  refine vx_met (cc := b_W_spend) (maxL := 4) (ret := none) (by decide) rfl (Nat.le_of_ble_eq_true rfl) ?_
  intro p e s m below meth c ls hx hb hrt hts hown hlocks hname hml hB hl
  obtain ⟨hP, hK⟩ := hB
  have hown : s.vm.findClass R_Wafer = some m.cls := hown
  have hl : lv_has ls 4 [(0, .ref (gA_ad G (18 + 4 * i))), (1, .int (nI a)), (2, .int k)] := hl
  have hD : va_D Af (cw X G A) := hP.2
  have hP : va_P X.1 classes (cw X G A) s.heap := hP.1
  have hS : va_S Af s.heap s.heap [] := va_S.rf
  refine lv_aload_n hx hb d_W_spend_0 rfl (lv_at hl 0 rfl) ?_
  refine va_get (D := X.1) (ci := 5) (C := R_Wafer) (T := F_Wafer) (N := 10) hx hb hts hin_Wafer hown hK.1 hP (18 + 4 * i) (cw_w hi) rfl 6 (by decide) (hts _ (wd_1 147 rfl rfl)) (fun _ h9 => h9) rfl d_W_spend_1 ?_
  refine lv_iload_n hx hb d_W_spend_4 rfl (lv_at hl 1 rfl) ?_
  refine va_mmin hx hb (hml.trans hl.1.symm) hown (hts _ (wd_2 83 rfl rfl)) (hts _ (wd_2 84 rfl rfl)) (hts _ (wd_1 9 rfl rfl)) (hts _ (wd_2 85 rfl rfl)) (Nat.le_of_ble_eq_true rfl) (Nat.le_of_ble_eq_true rfl) (Nat.zero_le _) (Nat.zero_le _) d_W_spend_5 ?_
  rw [mmin_nI (a := sA_lf A i) (b := a) (by omega) (by omega)]
  refine lv_istore_n (lv' := [(3, .int (nI (min (sA_lf A i) a))), (0, .ref (gA_ad G (18 + 4 * i))), (1, .int (nI a)), (2, .int k)]) hx hb d_W_spend_8 rfl hl (by decide) rfl (fun ls hl => ?_)
  refine lv_iload_n hx hb d_W_spend_9 rfl (lv_at hl 0 rfl) ?_
  refine lv_if_le (tgt := 42) hx hb d_W_spend_10 rfl (fun h10 => ?_) (fun h10 => ?_)
  ·
    refine lv_aload_n hx hb d_W_spend_42 rfl (lv_at hl 1 rfl) ?_
    refine lv_dup hx hb d_W_spend_43 rfl ?_
    refine va_get (D := X.1) (ci := 5) (C := R_Wafer) (T := F_Wafer) (N := 10) hx hb hts hin_Wafer hown hK.1 hP (18 + 4 * i) (cw_w hi) rfl 6 (by decide) (hts _ (wd_1 147 rfl rfl)) (fun _ h9 => h9) rfl d_W_spend_44 ?_
    refine lv_iload_n hx hb d_W_spend_47 rfl (lv_at hl 0 rfl) ?_
    refine lv_isub hx hb d_W_spend_48 ?_
    rw [pk_sub (Nat.min_le_left _ _)]
    refine va_put (D := X.1) (ci := 5) (v := .int (nI (sA_lf A i - min (sA_lf A i) a))) (ty := .int) (C := R_Wafer) (T := F_Wafer) (N := 10) hx hb hts hin_Wafer t_Wafer t_Wafer_ok n_Wafer hown hK.1 hP hD hS (18 + 4 * i) (cw_w hi) rfl 6 (by decide) (hts _ (wd_1 147 rfl rfl)) (fun _ h9 => h9) rfl (by decide +kernel) rfl rfl (Nat.le_of_ble_eq_true rfl) d_W_spend_49 (fun H locs hP hD hS => ?_)
    replace hP := vx_P (cw_s_lf (X := X) (G := G) (A := A) (i := i) (v := (sA_lf A i - min (sA_lf A i) a))) hP
    replace hD := vx_D (cw_s_lf (X := X) (G := G) (A := A) (i := i) (v := (sA_lf A i - min (sA_lf A i) a))) hD
    refine lv_aload_n hx hb d_W_spend_52 rfl (lv_at hl 1 rfl) ?_
    refine lv_dup hx hb d_W_spend_53 rfl ?_
    refine va_get (D := X.1) (ci := 5) (C := R_Wafer) (T := F_Wafer) (N := 10) hx hb hts hin_Wafer hown hK.1 hP (18 + 4 * i) (cw_w hi) rfl 7 (by decide) (hts _ (wd_1 149 rfl rfl)) (fun _ h9 => h9) rfl d_W_spend_54 ?_
    refine lv_iload_n hx hb d_W_spend_57 rfl (lv_at hl 2 rfl) ?_
    refine lv_iload_n hx hb d_W_spend_58 rfl (lv_at hl 0 rfl) ?_
    refine lv_isub hx hb d_W_spend_59 ?_
    rw [pk_sub (a := a) (Nat.min_le_right _ _)]
    refine lv_iadd hx hb d_W_spend_60 ?_
    refine va_put (D := X.1) (ci := 5) (v := .int ((gA_wt G i) + (nI (a - min (sA_lf A i) a)))) (ty := .int) (C := R_Wafer) (T := F_Wafer) (N := 10) hx hb hts hin_Wafer t_Wafer t_Wafer_ok n_Wafer hown hK.1 hP hD hS (18 + 4 * i) (cw_w hi) rfl 7 (by decide) (hts _ (wd_1 149 rfl rfl)) (fun _ h9 => h9) rfl (by decide +kernel) rfl rfl (Nat.le_of_ble_eq_true rfl) d_W_spend_61 (fun H locs hP hD hS => ?_)
    replace hP := vx_P (cw_s_wt (X := X) (G := G) (A := (sU_lf A (va_up (sA_lf A) i (sA_lf A i - min (sA_lf A i) a)))) (i := i) (v := ((gA_wt G i) + (nI (a - min (sA_lf A i) a))))) hP
    replace hD := vx_D (cw_s_wt (X := X) (G := G) (A := (sU_lf A (va_up (sA_lf A) i (sA_lf A i - min (sA_lf A i) a)))) (i := i) (v := ((gA_wt G i) + (nI (a - min (sA_lf A i) a))))) hD
    exact W.vret hx hb hrt (fun t ht hW => ⟨⟨((gU_wt G (va_up (gA_wt G) i ((gA_wt G i) + (nI (a - min (sA_lf A i) a))))), (sU_lf A (va_up (sA_lf A) i (sA_lf A i - min (sA_lf A i) a)))), rfl, by rw [g_W_spend, if_pos h10], ⟨by rw [ht]; exact hP, hD⟩⟩, hS.F ht⟩) hS.2.2 d_W_spend_64
  ·
    refine lv_iload_n hx hb d_W_spend_13 rfl (lv_at hl 0 rfl) ?_
    refine lv_aload_n hx hb d_W_spend_14 rfl (lv_at hl 1 rfl) ?_
    refine va_get (D := X.1) (ci := 5) (C := R_Wafer) (T := F_Wafer) (N := 10) hx hb hts hin_Wafer hown hK.1 hP (18 + 4 * i) (cw_w hi) rfl 6 (by decide) (hts _ (wd_1 147 rfl rfl)) (fun _ h9 => h9) rfl d_W_spend_15 ?_
    refine lv_icmp_ne (tgt := 42) hx hb d_W_spend_18 rfl (fun h18 => ?_) (fun h18 => ?_)
    ·
      refine lv_aload_n hx hb d_W_spend_42 rfl (lv_at hl 1 rfl) ?_
      refine lv_dup hx hb d_W_spend_43 rfl ?_
      refine va_get (D := X.1) (ci := 5) (C := R_Wafer) (T := F_Wafer) (N := 10) hx hb hts hin_Wafer hown hK.1 hP (18 + 4 * i) (cw_w hi) rfl 6 (by decide) (hts _ (wd_1 147 rfl rfl)) (fun _ h9 => h9) rfl d_W_spend_44 ?_
      refine lv_iload_n hx hb d_W_spend_47 rfl (lv_at hl 0 rfl) ?_
      refine lv_isub hx hb d_W_spend_48 ?_
      rw [pk_sub (Nat.min_le_left _ _)]
      refine va_put (D := X.1) (ci := 5) (v := .int (nI (sA_lf A i - min (sA_lf A i) a))) (ty := .int) (C := R_Wafer) (T := F_Wafer) (N := 10) hx hb hts hin_Wafer t_Wafer t_Wafer_ok n_Wafer hown hK.1 hP hD hS (18 + 4 * i) (cw_w hi) rfl 6 (by decide) (hts _ (wd_1 147 rfl rfl)) (fun _ h9 => h9) rfl (by decide +kernel) rfl rfl (Nat.le_of_ble_eq_true rfl) d_W_spend_49 (fun H locs hP hD hS => ?_)
      replace hP := vx_P (cw_s_lf (X := X) (G := G) (A := A) (i := i) (v := (sA_lf A i - min (sA_lf A i) a))) hP
      replace hD := vx_D (cw_s_lf (X := X) (G := G) (A := A) (i := i) (v := (sA_lf A i - min (sA_lf A i) a))) hD
      refine lv_aload_n hx hb d_W_spend_52 rfl (lv_at hl 1 rfl) ?_
      refine lv_dup hx hb d_W_spend_53 rfl ?_
      refine va_get (D := X.1) (ci := 5) (C := R_Wafer) (T := F_Wafer) (N := 10) hx hb hts hin_Wafer hown hK.1 hP (18 + 4 * i) (cw_w hi) rfl 7 (by decide) (hts _ (wd_1 149 rfl rfl)) (fun _ h9 => h9) rfl d_W_spend_54 ?_
      refine lv_iload_n hx hb d_W_spend_57 rfl (lv_at hl 2 rfl) ?_
      refine lv_iload_n hx hb d_W_spend_58 rfl (lv_at hl 0 rfl) ?_
      refine lv_isub hx hb d_W_spend_59 ?_
      rw [pk_sub (a := a) (Nat.min_le_right _ _)]
      refine lv_iadd hx hb d_W_spend_60 ?_
      refine va_put (D := X.1) (ci := 5) (v := .int ((gA_wt G i) + (nI (a - min (sA_lf A i) a)))) (ty := .int) (C := R_Wafer) (T := F_Wafer) (N := 10) hx hb hts hin_Wafer t_Wafer t_Wafer_ok n_Wafer hown hK.1 hP hD hS (18 + 4 * i) (cw_w hi) rfl 7 (by decide) (hts _ (wd_1 149 rfl rfl)) (fun _ h9 => h9) rfl (by decide +kernel) rfl rfl (Nat.le_of_ble_eq_true rfl) d_W_spend_61 (fun H locs hP hD hS => ?_)
      replace hP := vx_P (cw_s_wt (X := X) (G := G) (A := (sU_lf A (va_up (sA_lf A) i (sA_lf A i - min (sA_lf A i) a)))) (i := i) (v := ((gA_wt G i) + (nI (a - min (sA_lf A i) a))))) hP
      replace hD := vx_D (cw_s_wt (X := X) (G := G) (A := (sU_lf A (va_up (sA_lf A) i (sA_lf A i - min (sA_lf A i) a)))) (i := i) (v := ((gA_wt G i) + (nI (a - min (sA_lf A i) a))))) hD
      exact W.vret hx hb hrt (fun t ht hW => ⟨⟨((gU_wt G (va_up (gA_wt G) i ((gA_wt G i) + (nI (a - min (sA_lf A i) a))))), (sU_lf A (va_up (sA_lf A) i (sA_lf A i - min (sA_lf A i) a)))), rfl, by rw [g_W_spend, if_neg h10, if_neg h18], ⟨by rw [ht]; exact hP, hD⟩⟩, hS.F ht⟩) hS.2.2 d_W_spend_64
    ·
      refine lv_aload_n hx hb d_W_spend_21 rfl (lv_at hl 1 rfl) ?_
      refine va_get (D := X.1) (ci := 5) (C := R_Wafer) (T := F_Wafer) (N := 10) hx hb hts hin_Wafer hown hK.1 hP (18 + 4 * i) (cw_w hi) rfl 5 (by decide) (hts _ (wd_1 145 rfl rfl)) (fun _ h9 => h9) rfl d_W_spend_22 ?_
      refine lv_if_le (tgt := 42) hx hb d_W_spend_25 rfl (fun h25 => ?_) (fun h25 => ?_)
      ·
        refine lv_aload_n hx hb d_W_spend_42 rfl (lv_at hl 1 rfl) ?_
        refine lv_dup hx hb d_W_spend_43 rfl ?_
        refine va_get (D := X.1) (ci := 5) (C := R_Wafer) (T := F_Wafer) (N := 10) hx hb hts hin_Wafer hown hK.1 hP (18 + 4 * i) (cw_w hi) rfl 6 (by decide) (hts _ (wd_1 147 rfl rfl)) (fun _ h9 => h9) rfl d_W_spend_44 ?_
        refine lv_iload_n hx hb d_W_spend_47 rfl (lv_at hl 0 rfl) ?_
        refine lv_isub hx hb d_W_spend_48 ?_
        rw [pk_sub (Nat.min_le_left _ _)]
        refine va_put (D := X.1) (ci := 5) (v := .int (nI (sA_lf A i - min (sA_lf A i) a))) (ty := .int) (C := R_Wafer) (T := F_Wafer) (N := 10) hx hb hts hin_Wafer t_Wafer t_Wafer_ok n_Wafer hown hK.1 hP hD hS (18 + 4 * i) (cw_w hi) rfl 6 (by decide) (hts _ (wd_1 147 rfl rfl)) (fun _ h9 => h9) rfl (by decide +kernel) rfl rfl (Nat.le_of_ble_eq_true rfl) d_W_spend_49 (fun H locs hP hD hS => ?_)
        replace hP := vx_P (cw_s_lf (X := X) (G := G) (A := A) (i := i) (v := (sA_lf A i - min (sA_lf A i) a))) hP
        replace hD := vx_D (cw_s_lf (X := X) (G := G) (A := A) (i := i) (v := (sA_lf A i - min (sA_lf A i) a))) hD
        refine lv_aload_n hx hb d_W_spend_52 rfl (lv_at hl 1 rfl) ?_
        refine lv_dup hx hb d_W_spend_53 rfl ?_
        refine va_get (D := X.1) (ci := 5) (C := R_Wafer) (T := F_Wafer) (N := 10) hx hb hts hin_Wafer hown hK.1 hP (18 + 4 * i) (cw_w hi) rfl 7 (by decide) (hts _ (wd_1 149 rfl rfl)) (fun _ h9 => h9) rfl d_W_spend_54 ?_
        refine lv_iload_n hx hb d_W_spend_57 rfl (lv_at hl 2 rfl) ?_
        refine lv_iload_n hx hb d_W_spend_58 rfl (lv_at hl 0 rfl) ?_
        refine lv_isub hx hb d_W_spend_59 ?_
        rw [pk_sub (a := a) (Nat.min_le_right _ _)]
        refine lv_iadd hx hb d_W_spend_60 ?_
        refine va_put (D := X.1) (ci := 5) (v := .int ((gA_wt G i) + (nI (a - min (sA_lf A i) a)))) (ty := .int) (C := R_Wafer) (T := F_Wafer) (N := 10) hx hb hts hin_Wafer t_Wafer t_Wafer_ok n_Wafer hown hK.1 hP hD hS (18 + 4 * i) (cw_w hi) rfl 7 (by decide) (hts _ (wd_1 149 rfl rfl)) (fun _ h9 => h9) rfl (by decide +kernel) rfl rfl (Nat.le_of_ble_eq_true rfl) d_W_spend_61 (fun H locs hP hD hS => ?_)
        replace hP := vx_P (cw_s_wt (X := X) (G := G) (A := (sU_lf A (va_up (sA_lf A) i (sA_lf A i - min (sA_lf A i) a)))) (i := i) (v := ((gA_wt G i) + (nI (a - min (sA_lf A i) a))))) hP
        replace hD := vx_D (cw_s_wt (X := X) (G := G) (A := (sU_lf A (va_up (sA_lf A) i (sA_lf A i - min (sA_lf A i) a)))) (i := i) (v := ((gA_wt G i) + (nI (a - min (sA_lf A i) a))))) hD
        exact W.vret hx hb hrt (fun t ht hW => ⟨⟨((gU_wt G (va_up (gA_wt G) i ((gA_wt G i) + (nI (a - min (sA_lf A i) a))))), (sU_lf A (va_up (sA_lf A) i (sA_lf A i - min (sA_lf A i) a)))), rfl, by rw [g_W_spend, if_neg h10, if_pos h18, if_pos h25], ⟨by rw [ht]; exact hP, hD⟩⟩, hS.F ht⟩) hS.2.2 d_W_spend_64
      ·
        refine lv_aload_n hx hb d_W_spend_28 rfl (lv_at hl 1 rfl) ?_
        refine va_get (D := X.1) (ci := 5) (C := R_Wafer) (T := F_Wafer) (N := 10) hx hb hts hin_Wafer hown hK.1 hP (18 + 4 * i) (cw_w hi) rfl 3 (by decide) (hts _ (wd_1 141 rfl rfl)) (fun _ h9 => h9) rfl d_W_spend_29 ?_
        refine lv_aload_n hx hb d_W_spend_32 rfl (lv_at hl 1 rfl) ?_
        refine va_get (D := X.1) (ci := 5) (C := R_Wafer) (T := F_Wafer) (N := 10) hx hb hts hin_Wafer hown hK.1 hP (18 + 4 * i) (cw_w hi) rfl 5 (by decide) (hts _ (wd_1 145 rfl rfl)) (fun _ h9 => h9) rfl d_W_spend_33 ?_
        refine lv_iconst (v := 1) hx hb d_W_spend_36 rfl ?_
        refine lv_isub hx hb d_W_spend_37 ?_
        have hg1 : 1 ≤ sA_sg A i := pos_of_nle h25
        rw [nI_s1 hg1]
        refine lv_iload_n hx hb d_W_spend_38 rfl (lv_at hl 3 rfl) ?_
        refine lv_iload_n hx hb d_W_spend_39 rfl (lv_at hl 0 rfl) ?_
        refine lv_iadd hx hb d_W_spend_40 ?_
        refine va_iast hx hb hK.1 hP hD hS (18 + 4 * i + 3) 0 (cw_we hi) rfl (vp_in_nI (n := sA_sg A i - 1) (by omega) (by omega)) d_W_spend_41 (fun H locs hP hD hS => ?_)
        rw [nI_clamp (n := sA_sg A i - 1) (by omega)] at hP hD
        replace hP := vx_P (cw_s_en (X := X) (G := G) (A := A) (i := i) (k := sA_sg A i - 1) (x := (k + (nI (min (sA_lf A i) a))))) hP
        replace hD := vx_D (cw_s_en (X := X) (G := G) (A := A) (i := i) (k := sA_sg A i - 1) (x := (k + (nI (min (sA_lf A i) a))))) hD
        refine lv_aload_n hx hb d_W_spend_42 rfl (lv_at hl 1 rfl) ?_
        refine lv_dup hx hb d_W_spend_43 rfl ?_
        refine va_get (D := X.1) (ci := 5) (C := R_Wafer) (T := F_Wafer) (N := 10) hx hb hts hin_Wafer hown hK.1 hP (18 + 4 * i) (cw_w hi) rfl 6 (by decide) (hts _ (wd_1 147 rfl rfl)) (fun _ h9 => h9) rfl d_W_spend_44 ?_
        refine lv_iload_n hx hb d_W_spend_47 rfl (lv_at hl 0 rfl) ?_
        refine lv_isub hx hb d_W_spend_48 ?_
        rw [pk_sub (Nat.min_le_left _ _)]
        refine va_put (D := X.1) (ci := 5) (v := .int (nI (sA_lf A i - min (sA_lf A i) a))) (ty := .int) (C := R_Wafer) (T := F_Wafer) (N := 10) hx hb hts hin_Wafer t_Wafer t_Wafer_ok n_Wafer hown hK.1 hP hD hS (18 + 4 * i) (cw_w hi) rfl 6 (by decide) (hts _ (wd_1 147 rfl rfl)) (fun _ h9 => h9) rfl (by decide +kernel) rfl rfl (Nat.le_of_ble_eq_true rfl) d_W_spend_49 (fun H locs hP hD hS => ?_)
        replace hP := vx_P (cw_s_lf (X := X) (G := G) (A := (sU_en A (va_up (sA_en A) i (upd (sA_en A i) (sA_sg A i - 1) (k + (nI (min (sA_lf A i) a))))))) (i := i) (v := (sA_lf A i - min (sA_lf A i) a))) hP
        replace hD := vx_D (cw_s_lf (X := X) (G := G) (A := (sU_en A (va_up (sA_en A) i (upd (sA_en A i) (sA_sg A i - 1) (k + (nI (min (sA_lf A i) a))))))) (i := i) (v := (sA_lf A i - min (sA_lf A i) a))) hD
        refine lv_aload_n hx hb d_W_spend_52 rfl (lv_at hl 1 rfl) ?_
        refine lv_dup hx hb d_W_spend_53 rfl ?_
        refine va_get (D := X.1) (ci := 5) (C := R_Wafer) (T := F_Wafer) (N := 10) hx hb hts hin_Wafer hown hK.1 hP (18 + 4 * i) (cw_w hi) rfl 7 (by decide) (hts _ (wd_1 149 rfl rfl)) (fun _ h9 => h9) rfl d_W_spend_54 ?_
        refine lv_iload_n hx hb d_W_spend_57 rfl (lv_at hl 2 rfl) ?_
        refine lv_iload_n hx hb d_W_spend_58 rfl (lv_at hl 0 rfl) ?_
        refine lv_isub hx hb d_W_spend_59 ?_
        rw [pk_sub (a := a) (Nat.min_le_right _ _)]
        refine lv_iadd hx hb d_W_spend_60 ?_
        refine va_put (D := X.1) (ci := 5) (v := .int ((gA_wt G i) + (nI (a - min (sA_lf A i) a)))) (ty := .int) (C := R_Wafer) (T := F_Wafer) (N := 10) hx hb hts hin_Wafer t_Wafer t_Wafer_ok n_Wafer hown hK.1 hP hD hS (18 + 4 * i) (cw_w hi) rfl 7 (by decide) (hts _ (wd_1 149 rfl rfl)) (fun _ h9 => h9) rfl (by decide +kernel) rfl rfl (Nat.le_of_ble_eq_true rfl) d_W_spend_61 (fun H locs hP hD hS => ?_)
        replace hP := vx_P (cw_s_wt (X := X) (G := G) (A := (sU_lf (sU_en A (va_up (sA_en A) i (upd (sA_en A i) (sA_sg A i - 1) (k + (nI (min (sA_lf A i) a)))))) (va_up (sA_lf A) i (sA_lf A i - min (sA_lf A i) a)))) (i := i) (v := ((gA_wt G i) + (nI (a - min (sA_lf A i) a))))) hP
        replace hD := vx_D (cw_s_wt (X := X) (G := G) (A := (sU_lf (sU_en A (va_up (sA_en A) i (upd (sA_en A i) (sA_sg A i - 1) (k + (nI (min (sA_lf A i) a)))))) (va_up (sA_lf A) i (sA_lf A i - min (sA_lf A i) a)))) (i := i) (v := ((gA_wt G i) + (nI (a - min (sA_lf A i) a))))) hD
        exact W.vret hx hb hrt (fun t ht hW => ⟨⟨((gU_wt G (va_up (gA_wt G) i ((gA_wt G i) + (nI (a - min (sA_lf A i) a))))), (sU_lf (sU_en A (va_up (sA_en A) i (upd (sA_en A i) (sA_sg A i - 1) (k + (nI (min (sA_lf A i) a)))))) (va_up (sA_lf A) i (sA_lf A i - min (sA_lf A i) a)))), rfl, by rw [g_W_spend, if_neg h10, if_pos h18, if_neg h25], ⟨by rw [ht]; exact hP, hD⟩⟩, hS.F ht⟩) hS.2.2 d_W_spend_64
abbrev rm_W_turnsLate : Room := { frames := 0, cells := 0, slots := 0, locals := 0 }
def f_W_turnsLate (G : Gc) (A : St) (i : Nat) (x : Int32) : Bool :=
  if (sA_la A i) then
    false
  else
    if x = 0 then
      false
    else
      if x < (gA_wt G i) then
        true
      else
        false
def g_W_turnsLate (G : Gc) (A : St) (i : Nat) (x : Int32) : Gc × St :=
  if (sA_la A i) then
    (G, A)
  else
    if x = 0 then
      (G, A)
    else
      if x < (gA_wt G i) then
        (G, (sU_la A (va_up (sA_la A) i true)))
      else
        (G, A)
set_option maxRecDepth 20000 in
set_option maxHeartbeats 4000000 in
theorem c_W_turnsLate (l : Launch) (X : Xt) (G : Gc) (A : St) (Af : Nat → Prop) (i : Nat) (hi : i < sA_n A) (x : Int32) : Met l y_W_turnsLate (Cond.code y_W_turnsLate b_W_turnsLate 2 (some .boolean) :: WA) rm_W_turnsLate (va_Pc [.ref (gA_ad G (18 + 4 * i)), .int x] (fun U => PW X Af G A U.heap ∧ KK X U)) (va_Qi (fun ans u => ans = b2i (f_W_turnsLate G A i x) ∧ u = g_W_turnsLate G A i x) (atC X Af) Af) 0 0 Af := by
  refine vx_met (cc := b_W_turnsLate) (maxL := 2) (ret := (some .boolean)) (by decide) rfl (Nat.le_of_ble_eq_true rfl) ?_
  intro p e s m below meth c ls hx hb hrt hts hown hlocks hname hml hB hl
  obtain ⟨hP, hK⟩ := hB
  have hown : s.vm.findClass R_Wafer = some m.cls := hown
  have hl : lv_has ls 2 [(0, .ref (gA_ad G (18 + 4 * i))), (1, .int x)] := hl
  have hD : va_D Af (cw X G A) := hP.2
  have hP : va_P X.1 classes (cw X G A) s.heap := hP.1
  have hS : va_S Af s.heap s.heap [] := va_S.rf
  refine lv_aload_n hx hb d_W_turnsLate_0 rfl (lv_at hl 0 rfl) ?_
  refine va_get (D := X.1) (ci := 5) (C := R_Wafer) (T := F_Wafer) (N := 10) hx hb hts hin_Wafer hown hK.1 hP (18 + 4 * i) (cw_w hi) rfl 9 (by decide) (hts _ (wd_1 153 rfl rfl)) (fun _ h9 => h9) rfl d_W_turnsLate_1 ?_
  refine lv_if_ne (tgt := 19) hx hb d_W_turnsLate_4 rfl (fun h4 => ?_) (fun h4 => ?_)
  ·
    have h4 := b2i_t h4
    refine lv_iconst (v := 0) hx hb d_W_turnsLate_19 rfl ?_
    exact W.zret (v := b2i false) hx hb hrt (b2i_nar _) (fun t ht hW => ⟨⟨_, (G, A), rfl, ⟨by rw [f_W_turnsLate, if_pos h4], by rw [g_W_turnsLate, if_pos h4]⟩, ⟨by rw [ht]; exact hP, hD⟩⟩, hS.F ht⟩) hS.2.2 d_W_turnsLate_20
  ·
    have h4 := b2i_f h4
    refine lv_iload_n hx hb d_W_turnsLate_7 rfl (lv_at hl 1 rfl) ?_
    refine lv_if_eq (tgt := 19) hx hb d_W_turnsLate_8 rfl (fun h8 => ?_) (fun h8 => ?_)
    ·
      refine lv_iconst (v := 0) hx hb d_W_turnsLate_19 rfl ?_
      exact W.zret (v := b2i false) hx hb hrt (b2i_nar _) (fun t ht hW => ⟨⟨_, (G, A), rfl, ⟨by rw [f_W_turnsLate, if_neg (nt_of h4), if_pos h8], by rw [g_W_turnsLate, if_neg (nt_of h4), if_pos h8]⟩, ⟨by rw [ht]; exact hP, hD⟩⟩, hS.F ht⟩) hS.2.2 d_W_turnsLate_20
    ·
      refine lv_aload_n hx hb d_W_turnsLate_11 rfl (lv_at hl 0 rfl) ?_
      refine va_get (D := X.1) (ci := 5) (C := R_Wafer) (T := F_Wafer) (N := 10) hx hb hts hin_Wafer hown hK.1 hP (18 + 4 * i) (cw_w hi) rfl 7 (by decide) (hts _ (wd_1 149 rfl rfl)) (fun _ h9 => h9) rfl d_W_turnsLate_12 ?_
      refine lv_iload_n hx hb d_W_turnsLate_15 rfl (lv_at hl 1 rfl) ?_
      refine lv_icmp_gt (tgt := 21) hx hb d_W_turnsLate_16 rfl (fun h16 => ?_) (fun h16 => ?_)
      ·
        refine lv_aload_n hx hb d_W_turnsLate_21 rfl (lv_at hl 0 rfl) ?_
        refine lv_iconst (v := 1) hx hb d_W_turnsLate_22 rfl ?_
        refine va_put (D := X.1) (ci := 5) (v := .int (b2i true)) (ty := .boolean) (C := R_Wafer) (T := F_Wafer) (N := 10) hx hb hts hin_Wafer t_Wafer t_Wafer_ok n_Wafer hown hK.1 hP hD hS (18 + 4 * i) (cw_w hi) rfl 9 (by decide) (hts _ (wd_1 153 rfl rfl)) (fun _ h9 => h9) rfl (by decide +kernel) (b2i_nar _) (b2i_fit _) (Nat.le_of_ble_eq_true rfl) d_W_turnsLate_23 (fun H locs hP hD hS => ?_)
        replace hP := vx_P (cw_s_la (X := X) (G := G) (A := A) (i := i) (v := true)) hP
        replace hD := vx_D (cw_s_la (X := X) (G := G) (A := A) (i := i) (v := true)) hD
        refine lv_iconst (v := 1) hx hb d_W_turnsLate_26 rfl ?_
        exact W.zret (v := b2i true) hx hb hrt (b2i_nar _) (fun t ht hW => ⟨⟨_, (G, (sU_la A (va_up (sA_la A) i true))), rfl, ⟨by rw [f_W_turnsLate, if_neg (nt_of h4), if_neg h8, if_pos h16], by rw [g_W_turnsLate, if_neg (nt_of h4), if_neg h8, if_pos h16]⟩, ⟨by rw [ht]; exact hP, hD⟩⟩, hS.F ht⟩) hS.2.2 d_W_turnsLate_27
      ·
        refine lv_iconst (v := 0) hx hb d_W_turnsLate_19 rfl ?_
        exact W.zret (v := b2i false) hx hb hrt (b2i_nar _) (fun t ht hW => ⟨⟨_, (G, A), rfl, ⟨by rw [f_W_turnsLate, if_neg (nt_of h4), if_neg h8, if_neg h16], by rw [g_W_turnsLate, if_neg (nt_of h4), if_neg h8, if_neg h16]⟩, ⟨by rw [ht]; exact hP, hD⟩⟩, hS.F ht⟩) hS.2.2 d_W_turnsLate_20

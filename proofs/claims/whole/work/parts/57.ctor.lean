abbrev rm_B_init : Room := { frames := 1, cells := 0, slots := 0, locals := 40 }
set_option maxRecDepth 20000 in
set_option maxHeartbeats 4000000 in
theorem c_B_init (l : Launch) (X : Xt) (ws : va_W) (Af : Nat → Prop) (h0 : Nat) : Met l y_B_init (Cond.code y_B_init b_B_init 1 none :: WA) rm_B_init (va_Pc [.ref h0] (fun U => PL X Af (ws ++ [(h0, .inr (3, [.int 0, .int 0]))]) U.heap ∧ KK X U)) (va_Qv (fun u : Unit => True) (fun u t => va_P X.1 classes (ws ++ [(h0, .inr (3, [.int 0, .int 0]))]) t.heap ∧ va_D Af (ws ++ [(h0, .inr (3, [.int 0, .int 0]))])) Af) 0 0 Af := by
  refine vx_met (cc := b_B_init) (maxL := 1) (ret := none) (by decide) rfl (Nat.le_of_ble_eq_true rfl) ?_
  intro p e s m below meth c ls hx hb hrt hts hown hlocks hname hml hB hl
  obtain ⟨⟨hP, hD, hA⟩, hK⟩ := hB
  have hown : s.vm.findClass R_Robot = some m.cls := hown
  have hin : meth.name = "<init>" := hname
  have hl : lv_has ls 1 [(0, .ref h0)] := hl
  have hS : va_S Af s.heap s.heap [] := va_S.rf
  refine lv_aload_n hx hb d_B_init_0 rfl (lv_at hl 0 rfl) ?_
  refine W.objInit hx hb hown (hts _ (wd_1 73 rfl rfl)) (hts _ (wd_1 17 rfl rfl)) (hts _ (wd_1 18 rfl rfl)) rfl (by rw [hml]; exact hl.1) rfl d_B_init_1 (Nat.le_of_ble_eq_true rfl) (Nat.le_of_ble_eq_true rfl) ?_
  refine W.eq (g2 := F0 m 4 ls []) rfl ?_
  refine lv_aload_n hx hb d_B_init_4 rfl (lv_at hl 0 rfl) ?_
  refine lv_iconst (v := 0) hx hb d_B_init_5 rfl ?_
  refine va_put (D := X.1) (ci := 3) (v := .int 0) (ty := .boolean) (C := R_Robot) (T := F_Robot) (N := 2) hx hb hts hin_Robot t_Robot t_Robot_ok n_Robot hown hK.1 hP hD hS (ws.length + 0) (lwa 0 rfl) rfl 0 (by decide) (hts _ (wd_1 74 rfl rfl)) (fun _ h9 => h9) rfl (by decide +kernel) rfl rfl (Nat.le_of_ble_eq_true rfl) d_B_init_6 (fun H locs hP hD hS => ?_)
  replace hP := vx_P lws hP
  replace hD := vx_D lws hD
  have hP : va_P X.1 classes (ws ++ [(h0, .inr (3, [.int 0, .int 0]))]) H := hP
  have hD : va_D Af (ws ++ [(h0, .inr (3, [.int 0, .int 0]))]) := hD
  refine lv_aload_n hx hb d_B_init_9 rfl (lv_at hl 0 rfl) ?_
  refine lv_iconst (v := 0) hx hb d_B_init_10 rfl ?_
  refine va_put (D := X.1) (ci := 3) (v := .int 0) (ty := .int) (C := R_Robot) (T := F_Robot) (N := 2) hx hb hts hin_Robot t_Robot t_Robot_ok n_Robot hown hK.1 hP hD hS (ws.length + 0) (lwa 0 rfl) rfl 1 (by decide) (hts _ (wd_1 76 rfl rfl)) (fun _ h9 => h9) rfl (by decide +kernel) rfl rfl (Nat.le_of_ble_eq_true rfl) d_B_init_11 (fun H locs hP hD hS => ?_)
  replace hP := vx_P lws hP
  replace hD := vx_D lws hD
  have hP : va_P X.1 classes (ws ++ [(h0, .inr (3, [.int 0, .int 0]))]) H := hP
  have hD : va_D Af (ws ++ [(h0, .inr (3, [.int 0, .int 0]))]) := hD
  exact W.vret hx hb hrt (fun t ht hW => ⟨⟨(), rfl, trivial, ⟨by rw [ht]; exact hP, hD⟩⟩, hS.F ht⟩) hS.2.2 d_B_init_14
abbrev rm_U_init : Room := { frames := 1, cells := 3, slots := 9, locals := 40 }
set_option maxRecDepth 20000 in
set_option maxHeartbeats 4000000 in
theorem c_U_init (l : Launch) (X : Xt) (ws : va_W) (Af : Nat → Prop) (h0 : Nat) : Met l y_U_init (Cond.code y_U_init b_U_init 1 none :: WA) rm_U_init (va_Pc [.ref h0] (fun U => PL X Af (ws ++ [(h0, .inr (4, [.null, .null, .null, .int 0]))]) U.heap ∧ KK X U)) (va_Qv (fun u : Nat × Nat × Nat => True) (fun u t => va_P X.1 classes (ws ++ [(h0, .inr (4, [.ref u.1, .ref u.2.1, .ref u.2.2, .int 0])), (u.1, .inl (x_I X, aI 3 (fun _ => 0))), (u.2.1, .inl (x_I X, aI 3 (fun _ => 0))), (u.2.2, .inl (x_I X, aI 3 (fun _ => 0)))]) t.heap ∧ va_D Af (ws ++ [(h0, .inr (4, [.ref u.1, .ref u.2.1, .ref u.2.2, .int 0])), (u.1, .inl (x_I X, aI 3 (fun _ => 0))), (u.2.1, .inl (x_I X, aI 3 (fun _ => 0))), (u.2.2, .inl (x_I X, aI 3 (fun _ => 0)))])) Af) 3 9 Af := by
  refine vx_met (cc := b_U_init) (maxL := 1) (ret := none) (by decide) rfl (Nat.le_of_ble_eq_true rfl) ?_
  intro p e s m below meth c ls hx hb hrt hts hown hlocks hname hml hB hl
  obtain ⟨⟨hP, hD, hA⟩, hK⟩ := hB
  have hown : s.vm.findClass R_Route = some m.cls := hown
  have hin : meth.name = "<init>" := hname
  have hl : lv_has ls 1 [(0, .ref h0)] := hl
  have hS : va_S Af s.heap s.heap [] := va_S.rf
  refine lv_aload_n hx hb d_U_init_0 rfl (lv_at hl 0 rfl) ?_
  refine W.objInit hx hb hown (hts _ (wd_1 31 rfl rfl)) (hts _ (wd_1 17 rfl rfl)) (hts _ (wd_1 18 rfl rfl)) rfl (by rw [hml]; exact hl.1) rfl d_U_init_1 (Nat.le_of_ble_eq_true rfl) (Nat.le_of_ble_eq_true rfl) ?_
  refine W.eq (g2 := F0 m 4 ls []) rfl ?_
  refine lv_aload_n hx hb d_U_init_4 rfl (lv_at hl 0 rfl) ?_
  refine lv_iconst (v := 3) hx hb d_U_init_5 rfl ?_
  refine va_newa (ty := .int) (N' := 3) (a0 := aI 3 (fun _ => 0)) hx hb (hts _ (wd_1 46 rfl rfl)) rfl hK.1 hP hD hS hA (fun _ => rfl) (by decide) (by decide) (by decide) (by decide) (by decide) d_U_init_6 (fun q6 cA H hK9 hP hD hS => ?_)
  have eA := K_int hK9 hK 0 rfl
  subst eA
  replace hP := vx_P (List.append_assoc _ _ _) hP
  replace hD := vx_D (List.append_assoc _ _ _) hD
  have hP : va_P X.1 classes (ws ++ [(h0, .inr (4, [.null, .null, .null, .int 0])), (q6, .inl (x_I X, aI 3 (fun _ => 0)))]) H := hP
  have hD : va_D Af (ws ++ [(h0, .inr (4, [.null, .null, .null, .int 0])), (q6, .inl (x_I X, aI 3 (fun _ => 0)))]) := hD
  refine W.widen (k := 1) (n := 3) (by decide) (by decide) ?_
  refine va_putF (D := X.1) (ci := 4) (v := .ref q6) (ty := .array .int) (C := R_Route) (T := F_Route) (N := 4) hx hb hts hin_Route t_Route t_Route_ok n_Route hown hK.1 hP hD hS (ws.length + 0) (lwa 0 rfl) rfl 0 (by decide) (hts _ (wd_1 32 rfl rfl)) (fun _ h9 => h9) rfl hin rfl (by decide +kernel) rfl rfl (Nat.le_of_ble_eq_true rfl) d_U_init_8 (fun H locs hP hD hS => ?_)
  replace hP := vx_P lws hP
  replace hD := vx_D lws hD
  have hP : va_P X.1 classes (ws ++ [(h0, .inr (4, [.ref q6, .null, .null, .int 0])), (q6, .inl (x_I X, aI 3 (fun _ => 0)))]) H := hP
  have hD : va_D Af (ws ++ [(h0, .inr (4, [.ref q6, .null, .null, .int 0])), (q6, .inl (x_I X, aI 3 (fun _ => 0)))]) := hD
  refine lv_aload_n hx hb d_U_init_11 rfl (lv_at hl 0 rfl) ?_
  refine lv_iconst (v := 3) hx hb d_U_init_12 rfl ?_
  refine va_newa (ty := .int) (N' := 3) (a0 := aI 3 (fun _ => 0)) hx hb (hts _ (wd_1 46 rfl rfl)) rfl hK.1 hP hD hS hA (fun _ => rfl) (by decide) (by decide) (by decide) (by decide) (by decide) d_U_init_13 (fun q13 cA H hK9 hP hD hS => ?_)
  have eA := K_int hK9 hK 0 rfl
  subst eA
  replace hP := vx_P (List.append_assoc _ _ _) hP
  replace hD := vx_D (List.append_assoc _ _ _) hD
  have hP : va_P X.1 classes (ws ++ [(h0, .inr (4, [.ref q6, .null, .null, .int 0])), (q6, .inl (x_I X, aI 3 (fun _ => 0))), (q13, .inl (x_I X, aI 3 (fun _ => 0)))]) H := hP
  have hD : va_D Af (ws ++ [(h0, .inr (4, [.ref q6, .null, .null, .int 0])), (q6, .inl (x_I X, aI 3 (fun _ => 0))), (q13, .inl (x_I X, aI 3 (fun _ => 0)))]) := hD
  refine W.widen (k := 2) (n := 6) (by decide) (by decide) ?_
  refine va_putF (D := X.1) (ci := 4) (v := .ref q13) (ty := .array .int) (C := R_Route) (T := F_Route) (N := 4) hx hb hts hin_Route t_Route t_Route_ok n_Route hown hK.1 hP hD hS (ws.length + 0) (lwa 0 rfl) rfl 1 (by decide) (hts _ (wd_1 33 rfl rfl)) (fun _ h9 => h9) rfl hin rfl (by decide +kernel) rfl rfl (Nat.le_of_ble_eq_true rfl) d_U_init_15 (fun H locs hP hD hS => ?_)
  replace hP := vx_P lws hP
  replace hD := vx_D lws hD
  have hP : va_P X.1 classes (ws ++ [(h0, .inr (4, [.ref q6, .ref q13, .null, .int 0])), (q6, .inl (x_I X, aI 3 (fun _ => 0))), (q13, .inl (x_I X, aI 3 (fun _ => 0)))]) H := hP
  have hD : va_D Af (ws ++ [(h0, .inr (4, [.ref q6, .ref q13, .null, .int 0])), (q6, .inl (x_I X, aI 3 (fun _ => 0))), (q13, .inl (x_I X, aI 3 (fun _ => 0)))]) := hD
  refine lv_aload_n hx hb d_U_init_18 rfl (lv_at hl 0 rfl) ?_
  refine lv_iconst (v := 3) hx hb d_U_init_19 rfl ?_
  refine va_newa (ty := .int) (N' := 3) (a0 := aI 3 (fun _ => 0)) hx hb (hts _ (wd_1 46 rfl rfl)) rfl hK.1 hP hD hS hA (fun _ => rfl) (by decide) (by decide) (by decide) (by decide) (by decide) d_U_init_20 (fun q20 cA H hK9 hP hD hS => ?_)
  have eA := K_int hK9 hK 0 rfl
  subst eA
  replace hP := vx_P (List.append_assoc _ _ _) hP
  replace hD := vx_D (List.append_assoc _ _ _) hD
  have hP : va_P X.1 classes (ws ++ [(h0, .inr (4, [.ref q6, .ref q13, .null, .int 0])), (q6, .inl (x_I X, aI 3 (fun _ => 0))), (q13, .inl (x_I X, aI 3 (fun _ => 0))), (q20, .inl (x_I X, aI 3 (fun _ => 0)))]) H := hP
  have hD : va_D Af (ws ++ [(h0, .inr (4, [.ref q6, .ref q13, .null, .int 0])), (q6, .inl (x_I X, aI 3 (fun _ => 0))), (q13, .inl (x_I X, aI 3 (fun _ => 0))), (q20, .inl (x_I X, aI 3 (fun _ => 0)))]) := hD
  refine W.widen (k := 3) (n := 9) (by decide) (by decide) ?_
  refine va_putF (D := X.1) (ci := 4) (v := .ref q20) (ty := .array .int) (C := R_Route) (T := F_Route) (N := 4) hx hb hts hin_Route t_Route t_Route_ok n_Route hown hK.1 hP hD hS (ws.length + 0) (lwa 0 rfl) rfl 2 (by decide) (hts _ (wd_1 34 rfl rfl)) (fun _ h9 => h9) rfl hin rfl (by decide +kernel) rfl rfl (Nat.le_of_ble_eq_true rfl) d_U_init_22 (fun H locs hP hD hS => ?_)
  replace hP := vx_P lws hP
  replace hD := vx_D lws hD
  have hP : va_P X.1 classes (ws ++ [(h0, .inr (4, [.ref q6, .ref q13, .ref q20, .int 0])), (q6, .inl (x_I X, aI 3 (fun _ => 0))), (q13, .inl (x_I X, aI 3 (fun _ => 0))), (q20, .inl (x_I X, aI 3 (fun _ => 0)))]) H := hP
  have hD : va_D Af (ws ++ [(h0, .inr (4, [.ref q6, .ref q13, .ref q20, .int 0])), (q6, .inl (x_I X, aI 3 (fun _ => 0))), (q13, .inl (x_I X, aI 3 (fun _ => 0))), (q20, .inl (x_I X, aI 3 (fun _ => 0)))]) := hD
  refine lv_aload_n hx hb d_U_init_25 rfl (lv_at hl 0 rfl) ?_
  refine lv_iconst (v := 0) hx hb d_U_init_26 rfl ?_
  refine va_put (D := X.1) (ci := 4) (v := .int 0) (ty := .int) (C := R_Route) (T := F_Route) (N := 4) hx hb hts hin_Route t_Route t_Route_ok n_Route hown hK.1 hP hD hS (ws.length + 0) (lwa 0 rfl) rfl 3 (by decide) (hts _ (wd_1 35 rfl rfl)) (fun _ h9 => h9) rfl (by decide +kernel) rfl rfl (Nat.le_of_ble_eq_true rfl) d_U_init_27 (fun H locs hP hD hS => ?_)
  replace hP := vx_P lws hP
  replace hD := vx_D lws hD
  have hP : va_P X.1 classes (ws ++ [(h0, .inr (4, [.ref q6, .ref q13, .ref q20, .int 0])), (q6, .inl (x_I X, aI 3 (fun _ => 0))), (q13, .inl (x_I X, aI 3 (fun _ => 0))), (q20, .inl (x_I X, aI 3 (fun _ => 0)))]) H := hP
  have hD : va_D Af (ws ++ [(h0, .inr (4, [.ref q6, .ref q13, .ref q20, .int 0])), (q6, .inl (x_I X, aI 3 (fun _ => 0))), (q13, .inl (x_I X, aI 3 (fun _ => 0))), (q20, .inl (x_I X, aI 3 (fun _ => 0)))]) := hD
  exact W.vret hx hb hrt (fun t ht hW => ⟨⟨(q6, q13, q20), rfl, trivial, ⟨by rw [ht]; exact hP, hD⟩⟩, hS.F ht⟩) hS.2.2 d_U_init_30
abbrev rm_E_init : Room := { frames := 1, cells := 2, slots := 2048, locals := 40 }
set_option maxRecDepth 20000 in
set_option maxHeartbeats 4000000 in
theorem c_E_init (l : Launch) (X : Xt) (ws : va_W) (Af : Nat → Prop) (h0 : Nat) : Met l y_E_init (Cond.code y_E_init b_E_init 1 none :: WA) rm_E_init (va_Pc [.ref h0] (fun U => PL X Af (ws ++ [(h0, .inr (2, [.null, .null]))]) U.heap ∧ KK X U)) (va_Qv (fun u : Nat × Nat => True) (fun u t => va_P X.1 classes (ws ++ [(h0, .inr (2, [.ref u.1, .ref u.2])), (u.1, .inl (x_J X, aJ 1024 (fun _ => 0))), (u.2, .inl (x_J X, aJ 1024 (fun _ => 0)))]) t.heap ∧ va_D Af (ws ++ [(h0, .inr (2, [.ref u.1, .ref u.2])), (u.1, .inl (x_J X, aJ 1024 (fun _ => 0))), (u.2, .inl (x_J X, aJ 1024 (fun _ => 0)))])) Af) 2 2048 Af := by
  refine vx_met (cc := b_E_init) (maxL := 1) (ret := none) (by decide) rfl (Nat.le_of_ble_eq_true rfl) ?_
  intro p e s m below meth c ls hx hb hrt hts hown hlocks hname hml hB hl
  obtain ⟨⟨hP, hD, hA⟩, hK⟩ := hB
  have hown : s.vm.findClass R_Emptying = some m.cls := hown
  have hin : meth.name = "<init>" := hname
  have hl : lv_has ls 1 [(0, .ref h0)] := hl
  have hS : va_S Af s.heap s.heap [] := va_S.rf
  refine lv_aload_n hx hb d_E_init_0 rfl (lv_at hl 0 rfl) ?_
  refine W.objInit hx hb hown (hts _ (wd_1 59 rfl rfl)) (hts _ (wd_1 17 rfl rfl)) (hts _ (wd_1 18 rfl rfl)) rfl (by rw [hml]; exact hl.1) rfl d_E_init_1 (Nat.le_of_ble_eq_true rfl) (Nat.le_of_ble_eq_true rfl) ?_
  refine W.eq (g2 := F0 m 4 ls []) rfl ?_
  refine lv_aload_n hx hb d_E_init_4 rfl (lv_at hl 0 rfl) ?_
  refine lv_sipush (v := 1024) hx hb d_E_init_5 rfl ?_
  refine va_newa (ty := .long) (N' := 1024) (a0 := aJ 1024 (fun _ => 0)) hx hb (hts _ (wd_1 67 rfl rfl)) rfl hK.1 hP hD hS hA (fun _ => rfl) (by decide) (by decide) (by decide) (by decide) (by decide) d_E_init_8 (fun q8 cA H hK9 hP hD hS => ?_)
  have eA := K_int hK9 hK 1 rfl
  subst eA
  replace hP := vx_P (List.append_assoc _ _ _) hP
  replace hD := vx_D (List.append_assoc _ _ _) hD
  have hP : va_P X.1 classes (ws ++ [(h0, .inr (2, [.null, .null])), (q8, .inl (x_J X, aJ 1024 (fun _ => 0)))]) H := hP
  have hD : va_D Af (ws ++ [(h0, .inr (2, [.null, .null])), (q8, .inl (x_J X, aJ 1024 (fun _ => 0)))]) := hD
  refine W.widen (k := 1) (n := 1024) (by decide) (by decide) ?_
  refine va_putF (D := X.1) (ci := 2) (v := .ref q8) (ty := .array .long) (C := R_Emptying) (T := F_Emptying) (N := 2) hx hb hts hin_Emptying t_Emptying t_Emptying_ok n_Emptying hown hK.1 hP hD hS (ws.length + 0) (lwa 0 rfl) rfl 0 (by decide) (hts _ (wd_1 60 rfl rfl)) (fun _ h9 => h9) rfl hin rfl (by decide +kernel) rfl rfl (Nat.le_of_ble_eq_true rfl) d_E_init_10 (fun H locs hP hD hS => ?_)
  replace hP := vx_P lws hP
  replace hD := vx_D lws hD
  have hP : va_P X.1 classes (ws ++ [(h0, .inr (2, [.ref q8, .null])), (q8, .inl (x_J X, aJ 1024 (fun _ => 0)))]) H := hP
  have hD : va_D Af (ws ++ [(h0, .inr (2, [.ref q8, .null])), (q8, .inl (x_J X, aJ 1024 (fun _ => 0)))]) := hD
  refine lv_aload_n hx hb d_E_init_13 rfl (lv_at hl 0 rfl) ?_
  refine lv_sipush (v := 1024) hx hb d_E_init_14 rfl ?_
  refine va_newa (ty := .long) (N' := 1024) (a0 := aJ 1024 (fun _ => 0)) hx hb (hts _ (wd_1 67 rfl rfl)) rfl hK.1 hP hD hS hA (fun _ => rfl) (by decide) (by decide) (by decide) (by decide) (by decide) d_E_init_17 (fun q17 cA H hK9 hP hD hS => ?_)
  have eA := K_int hK9 hK 1 rfl
  subst eA
  replace hP := vx_P (List.append_assoc _ _ _) hP
  replace hD := vx_D (List.append_assoc _ _ _) hD
  have hP : va_P X.1 classes (ws ++ [(h0, .inr (2, [.ref q8, .null])), (q8, .inl (x_J X, aJ 1024 (fun _ => 0))), (q17, .inl (x_J X, aJ 1024 (fun _ => 0)))]) H := hP
  have hD : va_D Af (ws ++ [(h0, .inr (2, [.ref q8, .null])), (q8, .inl (x_J X, aJ 1024 (fun _ => 0))), (q17, .inl (x_J X, aJ 1024 (fun _ => 0)))]) := hD
  refine W.widen (k := 2) (n := 2048) (by decide) (by decide) ?_
  refine va_putF (D := X.1) (ci := 2) (v := .ref q17) (ty := .array .long) (C := R_Emptying) (T := F_Emptying) (N := 2) hx hb hts hin_Emptying t_Emptying t_Emptying_ok n_Emptying hown hK.1 hP hD hS (ws.length + 0) (lwa 0 rfl) rfl 1 (by decide) (hts _ (wd_1 61 rfl rfl)) (fun _ h9 => h9) rfl hin rfl (by decide +kernel) rfl rfl (Nat.le_of_ble_eq_true rfl) d_E_init_19 (fun H locs hP hD hS => ?_)
  replace hP := vx_P lws hP
  replace hD := vx_D lws hD
  have hP : va_P X.1 classes (ws ++ [(h0, .inr (2, [.ref q8, .ref q17])), (q8, .inl (x_J X, aJ 1024 (fun _ => 0))), (q17, .inl (x_J X, aJ 1024 (fun _ => 0)))]) H := hP
  have hD : va_D Af (ws ++ [(h0, .inr (2, [.ref q8, .ref q17])), (q8, .inl (x_J X, aJ 1024 (fun _ => 0))), (q17, .inl (x_J X, aJ 1024 (fun _ => 0)))]) := hD
  exact W.vret hx hb hrt (fun t ht hW => ⟨⟨(q8, q17), rfl, trivial, ⟨by rw [ht]; exact hP, hD⟩⟩, hS.F ht⟩) hS.2.2 d_E_init_22
abbrev rm_W_init : Room := { frames := 1, cells := 3, slots := 9, locals := 40 }
set_option maxRecDepth 20000 in
set_option maxHeartbeats 4000000 in
theorem c_W_init (l : Launch) (X : Xt) (ws : va_W) (Af : Nat → Prop) (h0 : Nat) (x : Int32) (b : Bool) : Met l y_W_init (Cond.code y_W_init b_W_init 3 none :: WA) rm_W_init (va_Pc [.ref h0, .int x, .int (b2i b)] (fun U => PL X Af (ws ++ [(h0, .inr (5, [.int 0, .null, .null, .null, .int 0, .int 0, .int 0, .int 0, .int 0, .int 0]))]) U.heap ∧ KK X U)) (va_Qv (fun u : Nat × Nat × Nat => True) (fun u t => va_P X.1 classes (ws ++ [(h0, .inr (5, [.int x, .ref u.1, .ref u.2.1, .ref u.2.2, .int 5, .int 0, .int 0, .int 0, .int (b2i b), .int 0])), (u.1, .inl (x_I X, aI 3 (fun _ => 0))), (u.2.1, .inl (x_I X, aI 3 (fun _ => 0))), (u.2.2, .inl (x_I X, aI 3 (fun _ => 0)))]) t.heap ∧ va_D Af (ws ++ [(h0, .inr (5, [.int x, .ref u.1, .ref u.2.1, .ref u.2.2, .int 5, .int 0, .int 0, .int 0, .int (b2i b), .int 0])), (u.1, .inl (x_I X, aI 3 (fun _ => 0))), (u.2.1, .inl (x_I X, aI 3 (fun _ => 0))), (u.2.2, .inl (x_I X, aI 3 (fun _ => 0)))])) Af) 3 9 Af := by
  refine vx_met (cc := b_W_init) (maxL := 3) (ret := none) (by decide) rfl (Nat.le_of_ble_eq_true rfl) ?_
  intro p e s m below meth c ls hx hb hrt hts hown hlocks hname hml hB hl
  obtain ⟨⟨hP, hD, hA⟩, hK⟩ := hB
  have hown : s.vm.findClass R_Wafer = some m.cls := hown
  have hin : meth.name = "<init>" := hname
  have hl : lv_has ls 3 [(0, .ref h0), (1, .int x), (2, .int (b2i b))] := hl
  have hS : va_S Af s.heap s.heap [] := va_S.rf
  refine lv_aload_n hx hb d_W_init_0 rfl (lv_at hl 0 rfl) ?_
  refine W.objInit hx hb hown (hts _ (wd_1 134 rfl rfl)) (hts _ (wd_1 17 rfl rfl)) (hts _ (wd_1 18 rfl rfl)) rfl (by rw [hml]; exact hl.1) rfl d_W_init_1 (Nat.le_of_ble_eq_true rfl) (Nat.le_of_ble_eq_true rfl) ?_
  refine W.eq (g2 := F0 m 4 ls []) rfl ?_
  refine lv_aload_n hx hb d_W_init_4 rfl (lv_at hl 0 rfl) ?_
  refine lv_iconst (v := 3) hx hb d_W_init_5 rfl ?_
  refine va_newa (ty := .int) (N' := 3) (a0 := aI 3 (fun _ => 0)) hx hb (hts _ (wd_1 46 rfl rfl)) rfl hK.1 hP hD hS hA (fun _ => rfl) (by decide) (by decide) (by decide) (by decide) (by decide) d_W_init_6 (fun q6 cA H hK9 hP hD hS => ?_)
  have eA := K_int hK9 hK 0 rfl
  subst eA
  replace hP := vx_P (List.append_assoc _ _ _) hP
  replace hD := vx_D (List.append_assoc _ _ _) hD
  have hP : va_P X.1 classes (ws ++ [(h0, .inr (5, [.int 0, .null, .null, .null, .int 0, .int 0, .int 0, .int 0, .int 0, .int 0])), (q6, .inl (x_I X, aI 3 (fun _ => 0)))]) H := hP
  have hD : va_D Af (ws ++ [(h0, .inr (5, [.int 0, .null, .null, .null, .int 0, .int 0, .int 0, .int 0, .int 0, .int 0])), (q6, .inl (x_I X, aI 3 (fun _ => 0)))]) := hD
  refine W.widen (k := 1) (n := 3) (by decide) (by decide) ?_
  refine va_putF (D := X.1) (ci := 5) (v := .ref q6) (ty := .array .int) (C := R_Wafer) (T := F_Wafer) (N := 10) hx hb hts hin_Wafer t_Wafer t_Wafer_ok n_Wafer hown hK.1 hP hD hS (ws.length + 0) (lwa 0 rfl) rfl 1 (by decide) (hts _ (wd_1 137 rfl rfl)) (fun _ h9 => h9) rfl hin rfl (by decide +kernel) rfl rfl (Nat.le_of_ble_eq_true rfl) d_W_init_8 (fun H locs hP hD hS => ?_)
  replace hP := vx_P lws hP
  replace hD := vx_D lws hD
  have hP : va_P X.1 classes (ws ++ [(h0, .inr (5, [.int 0, .ref q6, .null, .null, .int 0, .int 0, .int 0, .int 0, .int 0, .int 0])), (q6, .inl (x_I X, aI 3 (fun _ => 0)))]) H := hP
  have hD : va_D Af (ws ++ [(h0, .inr (5, [.int 0, .ref q6, .null, .null, .int 0, .int 0, .int 0, .int 0, .int 0, .int 0])), (q6, .inl (x_I X, aI 3 (fun _ => 0)))]) := hD
  refine lv_aload_n hx hb d_W_init_11 rfl (lv_at hl 0 rfl) ?_
  refine lv_iconst (v := 3) hx hb d_W_init_12 rfl ?_
  refine va_newa (ty := .int) (N' := 3) (a0 := aI 3 (fun _ => 0)) hx hb (hts _ (wd_1 46 rfl rfl)) rfl hK.1 hP hD hS hA (fun _ => rfl) (by decide) (by decide) (by decide) (by decide) (by decide) d_W_init_13 (fun q13 cA H hK9 hP hD hS => ?_)
  have eA := K_int hK9 hK 0 rfl
  subst eA
  replace hP := vx_P (List.append_assoc _ _ _) hP
  replace hD := vx_D (List.append_assoc _ _ _) hD
  have hP : va_P X.1 classes (ws ++ [(h0, .inr (5, [.int 0, .ref q6, .null, .null, .int 0, .int 0, .int 0, .int 0, .int 0, .int 0])), (q6, .inl (x_I X, aI 3 (fun _ => 0))), (q13, .inl (x_I X, aI 3 (fun _ => 0)))]) H := hP
  have hD : va_D Af (ws ++ [(h0, .inr (5, [.int 0, .ref q6, .null, .null, .int 0, .int 0, .int 0, .int 0, .int 0, .int 0])), (q6, .inl (x_I X, aI 3 (fun _ => 0))), (q13, .inl (x_I X, aI 3 (fun _ => 0)))]) := hD
  refine W.widen (k := 2) (n := 6) (by decide) (by decide) ?_
  refine va_putF (D := X.1) (ci := 5) (v := .ref q13) (ty := .array .int) (C := R_Wafer) (T := F_Wafer) (N := 10) hx hb hts hin_Wafer t_Wafer t_Wafer_ok n_Wafer hown hK.1 hP hD hS (ws.length + 0) (lwa 0 rfl) rfl 2 (by decide) (hts _ (wd_1 139 rfl rfl)) (fun _ h9 => h9) rfl hin rfl (by decide +kernel) rfl rfl (Nat.le_of_ble_eq_true rfl) d_W_init_15 (fun H locs hP hD hS => ?_)
  replace hP := vx_P lws hP
  replace hD := vx_D lws hD
  have hP : va_P X.1 classes (ws ++ [(h0, .inr (5, [.int 0, .ref q6, .ref q13, .null, .int 0, .int 0, .int 0, .int 0, .int 0, .int 0])), (q6, .inl (x_I X, aI 3 (fun _ => 0))), (q13, .inl (x_I X, aI 3 (fun _ => 0)))]) H := hP
  have hD : va_D Af (ws ++ [(h0, .inr (5, [.int 0, .ref q6, .ref q13, .null, .int 0, .int 0, .int 0, .int 0, .int 0, .int 0])), (q6, .inl (x_I X, aI 3 (fun _ => 0))), (q13, .inl (x_I X, aI 3 (fun _ => 0)))]) := hD
  refine lv_aload_n hx hb d_W_init_18 rfl (lv_at hl 0 rfl) ?_
  refine lv_iconst (v := 3) hx hb d_W_init_19 rfl ?_
  refine va_newa (ty := .int) (N' := 3) (a0 := aI 3 (fun _ => 0)) hx hb (hts _ (wd_1 46 rfl rfl)) rfl hK.1 hP hD hS hA (fun _ => rfl) (by decide) (by decide) (by decide) (by decide) (by decide) d_W_init_20 (fun q20 cA H hK9 hP hD hS => ?_)
  have eA := K_int hK9 hK 0 rfl
  subst eA
  replace hP := vx_P (List.append_assoc _ _ _) hP
  replace hD := vx_D (List.append_assoc _ _ _) hD
  have hP : va_P X.1 classes (ws ++ [(h0, .inr (5, [.int 0, .ref q6, .ref q13, .null, .int 0, .int 0, .int 0, .int 0, .int 0, .int 0])), (q6, .inl (x_I X, aI 3 (fun _ => 0))), (q13, .inl (x_I X, aI 3 (fun _ => 0))), (q20, .inl (x_I X, aI 3 (fun _ => 0)))]) H := hP
  have hD : va_D Af (ws ++ [(h0, .inr (5, [.int 0, .ref q6, .ref q13, .null, .int 0, .int 0, .int 0, .int 0, .int 0, .int 0])), (q6, .inl (x_I X, aI 3 (fun _ => 0))), (q13, .inl (x_I X, aI 3 (fun _ => 0))), (q20, .inl (x_I X, aI 3 (fun _ => 0)))]) := hD
  refine W.widen (k := 3) (n := 9) (by decide) (by decide) ?_
  refine va_putF (D := X.1) (ci := 5) (v := .ref q20) (ty := .array .int) (C := R_Wafer) (T := F_Wafer) (N := 10) hx hb hts hin_Wafer t_Wafer t_Wafer_ok n_Wafer hown hK.1 hP hD hS (ws.length + 0) (lwa 0 rfl) rfl 3 (by decide) (hts _ (wd_1 141 rfl rfl)) (fun _ h9 => h9) rfl hin rfl (by decide +kernel) rfl rfl (Nat.le_of_ble_eq_true rfl) d_W_init_22 (fun H locs hP hD hS => ?_)
  replace hP := vx_P lws hP
  replace hD := vx_D lws hD
  have hP : va_P X.1 classes (ws ++ [(h0, .inr (5, [.int 0, .ref q6, .ref q13, .ref q20, .int 0, .int 0, .int 0, .int 0, .int 0, .int 0])), (q6, .inl (x_I X, aI 3 (fun _ => 0))), (q13, .inl (x_I X, aI 3 (fun _ => 0))), (q20, .inl (x_I X, aI 3 (fun _ => 0)))]) H := hP
  have hD : va_D Af (ws ++ [(h0, .inr (5, [.int 0, .ref q6, .ref q13, .ref q20, .int 0, .int 0, .int 0, .int 0, .int 0, .int 0])), (q6, .inl (x_I X, aI 3 (fun _ => 0))), (q13, .inl (x_I X, aI 3 (fun _ => 0))), (q20, .inl (x_I X, aI 3 (fun _ => 0)))]) := hD
  refine lv_aload_n hx hb d_W_init_25 rfl (lv_at hl 0 rfl) ?_
  refine lv_iconst (v := 5) hx hb d_W_init_26 rfl ?_
  refine va_put (D := X.1) (ci := 5) (v := .int 5) (ty := .int) (C := R_Wafer) (T := F_Wafer) (N := 10) hx hb hts hin_Wafer t_Wafer t_Wafer_ok n_Wafer hown hK.1 hP hD hS (ws.length + 0) (lwa 0 rfl) rfl 4 (by decide) (hts _ (wd_1 143 rfl rfl)) (fun _ h9 => h9) rfl (by decide +kernel) rfl rfl (Nat.le_of_ble_eq_true rfl) d_W_init_27 (fun H locs hP hD hS => ?_)
  replace hP := vx_P lws hP
  replace hD := vx_D lws hD
  have hP : va_P X.1 classes (ws ++ [(h0, .inr (5, [.int 0, .ref q6, .ref q13, .ref q20, .int 5, .int 0, .int 0, .int 0, .int 0, .int 0])), (q6, .inl (x_I X, aI 3 (fun _ => 0))), (q13, .inl (x_I X, aI 3 (fun _ => 0))), (q20, .inl (x_I X, aI 3 (fun _ => 0)))]) H := hP
  have hD : va_D Af (ws ++ [(h0, .inr (5, [.int 0, .ref q6, .ref q13, .ref q20, .int 5, .int 0, .int 0, .int 0, .int 0, .int 0])), (q6, .inl (x_I X, aI 3 (fun _ => 0))), (q13, .inl (x_I X, aI 3 (fun _ => 0))), (q20, .inl (x_I X, aI 3 (fun _ => 0)))]) := hD
  refine lv_aload_n hx hb d_W_init_30 rfl (lv_at hl 0 rfl) ?_
  refine lv_iconst (v := 0) hx hb d_W_init_31 rfl ?_
  refine va_put (D := X.1) (ci := 5) (v := .int 0) (ty := .int) (C := R_Wafer) (T := F_Wafer) (N := 10) hx hb hts hin_Wafer t_Wafer t_Wafer_ok n_Wafer hown hK.1 hP hD hS (ws.length + 0) (lwa 0 rfl) rfl 5 (by decide) (hts _ (wd_1 145 rfl rfl)) (fun _ h9 => h9) rfl (by decide +kernel) rfl rfl (Nat.le_of_ble_eq_true rfl) d_W_init_32 (fun H locs hP hD hS => ?_)
  replace hP := vx_P lws hP
  replace hD := vx_D lws hD
  have hP : va_P X.1 classes (ws ++ [(h0, .inr (5, [.int 0, .ref q6, .ref q13, .ref q20, .int 5, .int 0, .int 0, .int 0, .int 0, .int 0])), (q6, .inl (x_I X, aI 3 (fun _ => 0))), (q13, .inl (x_I X, aI 3 (fun _ => 0))), (q20, .inl (x_I X, aI 3 (fun _ => 0)))]) H := hP
  have hD : va_D Af (ws ++ [(h0, .inr (5, [.int 0, .ref q6, .ref q13, .ref q20, .int 5, .int 0, .int 0, .int 0, .int 0, .int 0])), (q6, .inl (x_I X, aI 3 (fun _ => 0))), (q13, .inl (x_I X, aI 3 (fun _ => 0))), (q20, .inl (x_I X, aI 3 (fun _ => 0)))]) := hD
  refine lv_aload_n hx hb d_W_init_35 rfl (lv_at hl 0 rfl) ?_
  refine lv_iconst (v := 0) hx hb d_W_init_36 rfl ?_
  refine va_put (D := X.1) (ci := 5) (v := .int 0) (ty := .int) (C := R_Wafer) (T := F_Wafer) (N := 10) hx hb hts hin_Wafer t_Wafer t_Wafer_ok n_Wafer hown hK.1 hP hD hS (ws.length + 0) (lwa 0 rfl) rfl 6 (by decide) (hts _ (wd_1 147 rfl rfl)) (fun _ h9 => h9) rfl (by decide +kernel) rfl rfl (Nat.le_of_ble_eq_true rfl) d_W_init_37 (fun H locs hP hD hS => ?_)
  replace hP := vx_P lws hP
  replace hD := vx_D lws hD
  have hP : va_P X.1 classes (ws ++ [(h0, .inr (5, [.int 0, .ref q6, .ref q13, .ref q20, .int 5, .int 0, .int 0, .int 0, .int 0, .int 0])), (q6, .inl (x_I X, aI 3 (fun _ => 0))), (q13, .inl (x_I X, aI 3 (fun _ => 0))), (q20, .inl (x_I X, aI 3 (fun _ => 0)))]) H := hP
  have hD : va_D Af (ws ++ [(h0, .inr (5, [.int 0, .ref q6, .ref q13, .ref q20, .int 5, .int 0, .int 0, .int 0, .int 0, .int 0])), (q6, .inl (x_I X, aI 3 (fun _ => 0))), (q13, .inl (x_I X, aI 3 (fun _ => 0))), (q20, .inl (x_I X, aI 3 (fun _ => 0)))]) := hD
  refine lv_aload_n hx hb d_W_init_40 rfl (lv_at hl 0 rfl) ?_
  refine lv_iconst (v := 0) hx hb d_W_init_41 rfl ?_
  refine va_put (D := X.1) (ci := 5) (v := .int 0) (ty := .int) (C := R_Wafer) (T := F_Wafer) (N := 10) hx hb hts hin_Wafer t_Wafer t_Wafer_ok n_Wafer hown hK.1 hP hD hS (ws.length + 0) (lwa 0 rfl) rfl 7 (by decide) (hts _ (wd_1 149 rfl rfl)) (fun _ h9 => h9) rfl (by decide +kernel) rfl rfl (Nat.le_of_ble_eq_true rfl) d_W_init_42 (fun H locs hP hD hS => ?_)
  replace hP := vx_P lws hP
  replace hD := vx_D lws hD
  have hP : va_P X.1 classes (ws ++ [(h0, .inr (5, [.int 0, .ref q6, .ref q13, .ref q20, .int 5, .int 0, .int 0, .int 0, .int 0, .int 0])), (q6, .inl (x_I X, aI 3 (fun _ => 0))), (q13, .inl (x_I X, aI 3 (fun _ => 0))), (q20, .inl (x_I X, aI 3 (fun _ => 0)))]) H := hP
  have hD : va_D Af (ws ++ [(h0, .inr (5, [.int 0, .ref q6, .ref q13, .ref q20, .int 5, .int 0, .int 0, .int 0, .int 0, .int 0])), (q6, .inl (x_I X, aI 3 (fun _ => 0))), (q13, .inl (x_I X, aI 3 (fun _ => 0))), (q20, .inl (x_I X, aI 3 (fun _ => 0)))]) := hD
  refine lv_aload_n hx hb d_W_init_45 rfl (lv_at hl 0 rfl) ?_
  refine lv_iconst (v := 0) hx hb d_W_init_46 rfl ?_
  refine va_put (D := X.1) (ci := 5) (v := .int 0) (ty := .boolean) (C := R_Wafer) (T := F_Wafer) (N := 10) hx hb hts hin_Wafer t_Wafer t_Wafer_ok n_Wafer hown hK.1 hP hD hS (ws.length + 0) (lwa 0 rfl) rfl 9 (by decide) (hts _ (wd_1 153 rfl rfl)) (fun _ h9 => h9) rfl (by decide +kernel) rfl rfl (Nat.le_of_ble_eq_true rfl) d_W_init_47 (fun H locs hP hD hS => ?_)
  replace hP := vx_P lws hP
  replace hD := vx_D lws hD
  have hP : va_P X.1 classes (ws ++ [(h0, .inr (5, [.int 0, .ref q6, .ref q13, .ref q20, .int 5, .int 0, .int 0, .int 0, .int 0, .int 0])), (q6, .inl (x_I X, aI 3 (fun _ => 0))), (q13, .inl (x_I X, aI 3 (fun _ => 0))), (q20, .inl (x_I X, aI 3 (fun _ => 0)))]) H := hP
  have hD : va_D Af (ws ++ [(h0, .inr (5, [.int 0, .ref q6, .ref q13, .ref q20, .int 5, .int 0, .int 0, .int 0, .int 0, .int 0])), (q6, .inl (x_I X, aI 3 (fun _ => 0))), (q13, .inl (x_I X, aI 3 (fun _ => 0))), (q20, .inl (x_I X, aI 3 (fun _ => 0)))]) := hD
  refine lv_aload_n hx hb d_W_init_50 rfl (lv_at hl 0 rfl) ?_
  refine lv_iload_n hx hb d_W_init_51 rfl (lv_at hl 1 rfl) ?_
  refine va_putF (D := X.1) (ci := 5) (v := .int x) (ty := .int) (C := R_Wafer) (T := F_Wafer) (N := 10) hx hb hts hin_Wafer t_Wafer t_Wafer_ok n_Wafer hown hK.1 hP hD hS (ws.length + 0) (lwa 0 rfl) rfl 0 (by decide) (hts _ (wd_1 135 rfl rfl)) (fun _ h9 => h9) rfl hin rfl (by decide +kernel) rfl rfl (Nat.le_of_ble_eq_true rfl) d_W_init_52 (fun H locs hP hD hS => ?_)
  replace hP := vx_P lws hP
  replace hD := vx_D lws hD
  have hP : va_P X.1 classes (ws ++ [(h0, .inr (5, [.int x, .ref q6, .ref q13, .ref q20, .int 5, .int 0, .int 0, .int 0, .int 0, .int 0])), (q6, .inl (x_I X, aI 3 (fun _ => 0))), (q13, .inl (x_I X, aI 3 (fun _ => 0))), (q20, .inl (x_I X, aI 3 (fun _ => 0)))]) H := hP
  have hD : va_D Af (ws ++ [(h0, .inr (5, [.int x, .ref q6, .ref q13, .ref q20, .int 5, .int 0, .int 0, .int 0, .int 0, .int 0])), (q6, .inl (x_I X, aI 3 (fun _ => 0))), (q13, .inl (x_I X, aI 3 (fun _ => 0))), (q20, .inl (x_I X, aI 3 (fun _ => 0)))]) := hD
  refine lv_aload_n hx hb d_W_init_55 rfl (lv_at hl 0 rfl) ?_
  refine lv_iload_n hx hb d_W_init_56 rfl (lv_at hl 2 rfl) ?_
  refine va_put (D := X.1) (ci := 5) (v := .int (b2i b)) (ty := .boolean) (C := R_Wafer) (T := F_Wafer) (N := 10) hx hb hts hin_Wafer t_Wafer t_Wafer_ok n_Wafer hown hK.1 hP hD hS (ws.length + 0) (lwa 0 rfl) rfl 8 (by decide) (hts _ (wd_1 151 rfl rfl)) (fun _ h9 => h9) rfl (by decide +kernel) (b2i_nar _) (b2i_fit _) (Nat.le_of_ble_eq_true rfl) d_W_init_57 (fun H locs hP hD hS => ?_)
  replace hP := vx_P lws hP
  replace hD := vx_D lws hD
  have hP : va_P X.1 classes (ws ++ [(h0, .inr (5, [.int x, .ref q6, .ref q13, .ref q20, .int 5, .int 0, .int 0, .int 0, .int (b2i b), .int 0])), (q6, .inl (x_I X, aI 3 (fun _ => 0))), (q13, .inl (x_I X, aI 3 (fun _ => 0))), (q20, .inl (x_I X, aI 3 (fun _ => 0)))]) H := hP
  have hD : va_D Af (ws ++ [(h0, .inr (5, [.int x, .ref q6, .ref q13, .ref q20, .int 5, .int 0, .int 0, .int 0, .int (b2i b), .int 0])), (q6, .inl (x_I X, aI 3 (fun _ => 0))), (q13, .inl (x_I X, aI 3 (fun _ => 0))), (q20, .inl (x_I X, aI 3 (fun _ => 0)))]) := hD
  exact W.vret hx hb hrt (fun t ht hW => ⟨⟨(q6, q13, q20), rfl, trivial, ⟨by rw [ht]; exact hP, hD⟩⟩, hS.F ht⟩) hS.2.2 d_W_init_60
abbrev rm_Y_init : Room := { frames := 2, cells := 9, slots := 28, locals := 60 }
set_option maxRecDepth 20000 in
set_option maxHeartbeats 4000000 in
theorem c_Y_init (l : Launch) (X : Xt) (ws : va_W) (Af : Nat → Prop) (h0 : Nat) : Met l y_Y_init (Cond.code y_Y_init b_Y_init 1 none :: WA) rm_Y_init (va_Pc [.ref h0] (fun U => PL X Af (ws ++ [(h0, .inr (1, [.null, .int 0]))]) U.heap ∧ KK X U)) (va_Qv (fun u : Nat × Nat × Nat × Nat × Nat × Nat × Nat × Nat × Nat => True) (fun u t => va_P X.1 classes (ws ++ [(h0, .inr (1, [.ref u.1, .int 0])), (u.1, .inl (x_R X, aQ 2 (va_up (va_up (fun _ => none) 0 (some u.2.1)) 1 (some u.2.2.2.2.2.1)))), (u.2.1, .inr (4, [.ref u.2.2.1, .ref u.2.2.2.1, .ref u.2.2.2.2.1, .int 0])), (u.2.2.1, .inl (x_I X, aI 3 (fun _ => 0))), (u.2.2.2.1, .inl (x_I X, aI 3 (fun _ => 0))), (u.2.2.2.2.1, .inl (x_I X, aI 3 (fun _ => 0))), (u.2.2.2.2.2.1, .inr (4, [.ref u.2.2.2.2.2.2.1, .ref u.2.2.2.2.2.2.2.1, .ref u.2.2.2.2.2.2.2.2, .int 0])), (u.2.2.2.2.2.2.1, .inl (x_I X, aI 3 (fun _ => 0))), (u.2.2.2.2.2.2.2.1, .inl (x_I X, aI 3 (fun _ => 0))), (u.2.2.2.2.2.2.2.2, .inl (x_I X, aI 3 (fun _ => 0)))]) t.heap ∧ va_D Af (ws ++ [(h0, .inr (1, [.ref u.1, .int 0])), (u.1, .inl (x_R X, aQ 2 (va_up (va_up (fun _ => none) 0 (some u.2.1)) 1 (some u.2.2.2.2.2.1)))), (u.2.1, .inr (4, [.ref u.2.2.1, .ref u.2.2.2.1, .ref u.2.2.2.2.1, .int 0])), (u.2.2.1, .inl (x_I X, aI 3 (fun _ => 0))), (u.2.2.2.1, .inl (x_I X, aI 3 (fun _ => 0))), (u.2.2.2.2.1, .inl (x_I X, aI 3 (fun _ => 0))), (u.2.2.2.2.2.1, .inr (4, [.ref u.2.2.2.2.2.2.1, .ref u.2.2.2.2.2.2.2.1, .ref u.2.2.2.2.2.2.2.2, .int 0])), (u.2.2.2.2.2.2.1, .inl (x_I X, aI 3 (fun _ => 0))), (u.2.2.2.2.2.2.2.1, .inl (x_I X, aI 3 (fun _ => 0))), (u.2.2.2.2.2.2.2.2, .inl (x_I X, aI 3 (fun _ => 0)))])) Af) 9 28 Af := by
  refine vx_met (cc := b_Y_init) (maxL := 1) (ret := none) (by decide) rfl (Nat.le_of_ble_eq_true rfl) ?_
  intro p e s m below meth c ls hx hb hrt hts hown hlocks hname hml hB hl
  obtain ⟨⟨hP, hD, hA⟩, hK⟩ := hB
  have hown : s.vm.findClass R_Ways = some m.cls := hown
  have hin : meth.name = "<init>" := hname
  have hl : lv_has ls 1 [(0, .ref h0)] := hl
  have hS : va_S Af s.heap s.heap [] := va_S.rf
  refine lv_aload_n hx hb d_Y_init_0 rfl (lv_at hl 0 rfl) ?_
  refine W.objInit hx hb hown (hts _ (wd_1 24 rfl rfl)) (hts _ (wd_1 17 rfl rfl)) (hts _ (wd_1 18 rfl rfl)) rfl (by rw [hml]; exact hl.1) rfl d_Y_init_1 (Nat.le_of_ble_eq_true rfl) (Nat.le_of_ble_eq_true rfl) ?_
  refine W.eq (g2 := F0 m 4 ls []) rfl ?_
  refine lv_aload_n hx hb d_Y_init_4 rfl (lv_at hl 0 rfl) ?_
  refine lv_iconst (v := 2) hx hb d_Y_init_5 rfl ?_
  refine va_newq (C := "ClusterTool$Route") (N' := 2) hx hb hown (hts _ (wd_1 25 rfl rfl)) hK.2.2.2 hK.1 hP hD hS hA (by decide) (by decide) (by decide) (by decide) (by decide) d_Y_init_6 (fun q6 cA H hK9 hP hD hS => ?_)
  have eA := K_int hK9 hK 4 rfl
  subst eA
  replace hP := vx_P (List.append_assoc _ _ _) hP
  replace hD := vx_D (List.append_assoc _ _ _) hD
  have hP : va_P X.1 classes (ws ++ [(h0, .inr (1, [.null, .int 0])), (q6, .inl (x_R X, aQ 2 (fun _ => none)))]) H := hP
  have hD : va_D Af (ws ++ [(h0, .inr (1, [.null, .int 0])), (q6, .inl (x_R X, aQ 2 (fun _ => none)))]) := hD
  refine W.widen (k := 1) (n := 2) (by decide) (by decide) ?_
  refine lv_dup hx hb d_Y_init_9 rfl ?_
  refine lv_iconst (v := 0) hx hb d_Y_init_10 rfl ?_
  refine va_new (ci := 4) (fs := [.null, .null, .null, .int 0]) (C := R_Route) (T := F_Route) (N := 4) hx hb hts hin_Route t_Route t_Route_ok hown (hts _ (wd_1 25 rfl rfl)) (hts _ (wd_1 27 rfl rfl)) (hts _ (wd_1 3 rfl rfl)) hK.1 hP hD hS hA rfl (fun j hj => by rcases (show j = 0 ∨ j = 1 ∨ j = 2 ∨ j = 3 by omega) with rfl | rfl | rfl | rfl <;> rfl) (by decide) (by decide) d_Y_init_11 (fun q11 H hP hD hS => ?_)
  replace hP := vx_P (List.append_assoc _ _ _) hP
  replace hD := vx_D (List.append_assoc _ _ _) hD
  have hP : va_P X.1 classes (ws ++ [(h0, .inr (1, [.null, .int 0])), (q6, .inl (x_R X, aQ 2 (fun _ => none))), (q11, .inr (4, [.null, .null, .null, .int 0]))]) H := hP
  have hD : va_D Af (ws ++ [(h0, .inr (1, [.null, .int 0])), (q6, .inl (x_R X, aQ 2 (fun _ => none))), (q11, .inr (4, [.null, .null, .null, .int 0]))]) := hD
  refine W.widen (k := 2) (n := 6) (by decide) (by decide) ?_
  refine lv_dup hx hb d_Y_init_14 rfl ?_
  replace hP : va_P X.1 classes ((ws ++ [(h0, .inr (1, [.null, .int 0])), (q6, .inl (x_R X, aQ 2 (fun _ => none)))]) ++ [(q11, .inr (4, [.null, .null, .null, .int 0]))]) H := by rw [List.append_assoc]; exact hP
  replace hD : va_D Af ((ws ++ [(h0, .inr (1, [.null, .int 0])), (q6, .inl (x_R X, aQ 2 (fun _ => none)))]) ++ [(q11, .inr (4, [.null, .null, .null, .int 0]))]) := by rw [List.append_assoc]; exact hD
  refine va_callv (va_runIN (As := []) (rest := [.ref q11, .int 0, .ref q6, .ref q6, .ref h0]) ⟨hx, hb, hml, hown, hts⟩ (c_U_init l X (ws ++ [(h0, .inr (1, [.null, .int 0])), (q6, .inl (x_R X, aQ 2 (fun _ => none)))]) Af q11) ⟨va_cnB 0 hts (gC (wd_1 30 rfl rfl) rfl) rfl rfl rfl (hK.2.1 _ (List.mem_of_getElem? (i := 1) rfl)) (hts _ (wd_1 3 rfl rfl)) hd_U_init ⟨Nat.le_of_ble_eq_true rfl, Nat.le_of_ble_eq_true rfl⟩, rfl, hts _ (wd_1 29 rfl rfl)⟩ (vx_preS (P := PL X Af ((ws ++ [(h0, .inr (1, [.null, .int 0])), (q6, .inl (x_R X, aQ 2 (fun _ => none)))]) ++ [(q11, .inr (4, [.null, .null, .null, .int 0]))])) ⟨hP, hD, fun q hq => hA q (Nat.le_trans hS.1 hq)⟩ hK) rfl rfl hl.1 rfl (lv_room (Nat.le_of_ble_eq_true rfl)) d_Y_init_15 ⟨by decide, by decide⟩) hS (fun q _ h => h) (fun q h => h) (fun u15 t15 H locs ht hvm hu15 hB hz hk hS => ?_)
  obtain ⟨hP, hD⟩ := hB
  rw [ht] at hP
  replace hP := vx_P (List.append_assoc _ _ _) hP
  replace hD := vx_D (List.append_assoc _ _ _) hD
  have hP : va_P X.1 classes (ws ++ [(h0, .inr (1, [.null, .int 0])), (q6, .inl (x_R X, aQ 2 (fun _ => none))), (q11, .inr (4, [.ref u15.1, .ref u15.2.1, .ref u15.2.2, .int 0])), (u15.1, .inl (x_I X, aI 3 (fun _ => 0))), (u15.2.1, .inl (x_I X, aI 3 (fun _ => 0))), (u15.2.2, .inl (x_I X, aI 3 (fun _ => 0)))]) H := hP
  have hD : va_D Af (ws ++ [(h0, .inr (1, [.null, .int 0])), (q6, .inl (x_R X, aQ 2 (fun _ => none))), (q11, .inr (4, [.ref u15.1, .ref u15.2.1, .ref u15.2.2, .int 0])), (u15.1, .inl (x_I X, aI 3 (fun _ => 0))), (u15.2.1, .inl (x_I X, aI 3 (fun _ => 0))), (u15.2.2, .inl (x_I X, aI 3 (fun _ => 0)))]) := hD
  refine W.widen (k := 5) (n := 15) (by decide) (by decide) ?_
  refine va_astq hx hb hK.1 hP hD hS (ws.length + 1) 4 (ws.length + 2) 4 (lwa 1 rfl) rfl (lwa 2 rfl) rfl (vp_in_nI (n := 0) (by decide) (by decide)) d_Y_init_18 (fun H locs hP hD hS => ?_)
  replace hP := vx_P lws hP
  replace hD := vx_D lws hD
  have hP : va_P X.1 classes (ws ++ [(h0, .inr (1, [.null, .int 0])), (q6, .inl (x_R X, aQ 2 (va_up (fun _ => none) 0 (some q11)))), (q11, .inr (4, [.ref u15.1, .ref u15.2.1, .ref u15.2.2, .int 0])), (u15.1, .inl (x_I X, aI 3 (fun _ => 0))), (u15.2.1, .inl (x_I X, aI 3 (fun _ => 0))), (u15.2.2, .inl (x_I X, aI 3 (fun _ => 0)))]) H := hP
  have hD : va_D Af (ws ++ [(h0, .inr (1, [.null, .int 0])), (q6, .inl (x_R X, aQ 2 (va_up (fun _ => none) 0 (some q11)))), (q11, .inr (4, [.ref u15.1, .ref u15.2.1, .ref u15.2.2, .int 0])), (u15.1, .inl (x_I X, aI 3 (fun _ => 0))), (u15.2.1, .inl (x_I X, aI 3 (fun _ => 0))), (u15.2.2, .inl (x_I X, aI 3 (fun _ => 0)))]) := hD
  refine lv_dup hx hb d_Y_init_19 rfl ?_
  refine lv_iconst (v := 1) hx hb d_Y_init_20 rfl ?_
  refine va_new (ci := 4) (fs := [.null, .null, .null, .int 0]) (C := R_Route) (T := F_Route) (N := 4) hx hb hts hin_Route t_Route t_Route_ok hown (hts _ (wd_1 25 rfl rfl)) (hts _ (wd_1 27 rfl rfl)) (hts _ (wd_1 3 rfl rfl)) hK.1 hP hD hS hA rfl (fun j hj => by rcases (show j = 0 ∨ j = 1 ∨ j = 2 ∨ j = 3 by omega) with rfl | rfl | rfl | rfl <;> rfl) (by decide) (by decide) d_Y_init_21 (fun q21 H hP hD hS => ?_)
  replace hP := vx_P (List.append_assoc _ _ _) hP
  replace hD := vx_D (List.append_assoc _ _ _) hD
  have hP : va_P X.1 classes (ws ++ [(h0, .inr (1, [.null, .int 0])), (q6, .inl (x_R X, aQ 2 (va_up (fun _ => none) 0 (some q11)))), (q11, .inr (4, [.ref u15.1, .ref u15.2.1, .ref u15.2.2, .int 0])), (u15.1, .inl (x_I X, aI 3 (fun _ => 0))), (u15.2.1, .inl (x_I X, aI 3 (fun _ => 0))), (u15.2.2, .inl (x_I X, aI 3 (fun _ => 0))), (q21, .inr (4, [.null, .null, .null, .int 0]))]) H := hP
  have hD : va_D Af (ws ++ [(h0, .inr (1, [.null, .int 0])), (q6, .inl (x_R X, aQ 2 (va_up (fun _ => none) 0 (some q11)))), (q11, .inr (4, [.ref u15.1, .ref u15.2.1, .ref u15.2.2, .int 0])), (u15.1, .inl (x_I X, aI 3 (fun _ => 0))), (u15.2.1, .inl (x_I X, aI 3 (fun _ => 0))), (u15.2.2, .inl (x_I X, aI 3 (fun _ => 0))), (q21, .inr (4, [.null, .null, .null, .int 0]))]) := hD
  refine W.widen (k := 6) (n := 19) (by decide) (by decide) ?_
  refine lv_dup hx hb d_Y_init_24 rfl ?_
  replace hP : va_P X.1 classes ((ws ++ [(h0, .inr (1, [.null, .int 0])), (q6, .inl (x_R X, aQ 2 (va_up (fun _ => none) 0 (some q11)))), (q11, .inr (4, [.ref u15.1, .ref u15.2.1, .ref u15.2.2, .int 0])), (u15.1, .inl (x_I X, aI 3 (fun _ => 0))), (u15.2.1, .inl (x_I X, aI 3 (fun _ => 0))), (u15.2.2, .inl (x_I X, aI 3 (fun _ => 0)))]) ++ [(q21, .inr (4, [.null, .null, .null, .int 0]))]) H := by rw [List.append_assoc]; exact hP
  replace hD : va_D Af ((ws ++ [(h0, .inr (1, [.null, .int 0])), (q6, .inl (x_R X, aQ 2 (va_up (fun _ => none) 0 (some q11)))), (q11, .inr (4, [.ref u15.1, .ref u15.2.1, .ref u15.2.2, .int 0])), (u15.1, .inl (x_I X, aI 3 (fun _ => 0))), (u15.2.1, .inl (x_I X, aI 3 (fun _ => 0))), (u15.2.2, .inl (x_I X, aI 3 (fun _ => 0)))]) ++ [(q21, .inr (4, [.null, .null, .null, .int 0]))]) := by rw [List.append_assoc]; exact hD
  refine va_callv (va_runIN (As := []) (rest := [.ref q21, .int 1, .ref q6, .ref q6, .ref h0]) ⟨hx, hb, hml, hown, hts⟩ (c_U_init l X (ws ++ [(h0, .inr (1, [.null, .int 0])), (q6, .inl (x_R X, aQ 2 (va_up (fun _ => none) 0 (some q11)))), (q11, .inr (4, [.ref u15.1, .ref u15.2.1, .ref u15.2.2, .int 0])), (u15.1, .inl (x_I X, aI 3 (fun _ => 0))), (u15.2.1, .inl (x_I X, aI 3 (fun _ => 0))), (u15.2.2, .inl (x_I X, aI 3 (fun _ => 0)))]) Af q21) ⟨va_cnB 0 hts (gC (wd_1 30 rfl rfl) rfl) rfl rfl rfl (hK.2.1 _ (List.mem_of_getElem? (i := 1) rfl)) (hts _ (wd_1 3 rfl rfl)) hd_U_init ⟨Nat.le_of_ble_eq_true rfl, Nat.le_of_ble_eq_true rfl⟩, rfl, hts _ (wd_1 29 rfl rfl)⟩ (vx_preS (P := PL X Af ((ws ++ [(h0, .inr (1, [.null, .int 0])), (q6, .inl (x_R X, aQ 2 (va_up (fun _ => none) 0 (some q11)))), (q11, .inr (4, [.ref u15.1, .ref u15.2.1, .ref u15.2.2, .int 0])), (u15.1, .inl (x_I X, aI 3 (fun _ => 0))), (u15.2.1, .inl (x_I X, aI 3 (fun _ => 0))), (u15.2.2, .inl (x_I X, aI 3 (fun _ => 0)))]) ++ [(q21, .inr (4, [.null, .null, .null, .int 0]))])) ⟨hP, hD, fun q hq => hA q (Nat.le_trans hS.1 hq)⟩ hK) rfl rfl hl.1 rfl (lv_room (Nat.le_of_ble_eq_true rfl)) d_Y_init_25 ⟨by decide, by decide⟩) hS (fun q _ h => h) (fun q h => h) (fun u25 t25 H locs ht hvm hu25 hB hz hk hS => ?_)
  obtain ⟨hP, hD⟩ := hB
  rw [ht] at hP
  replace hP := vx_P (List.append_assoc _ _ _) hP
  replace hD := vx_D (List.append_assoc _ _ _) hD
  have hP : va_P X.1 classes (ws ++ [(h0, .inr (1, [.null, .int 0])), (q6, .inl (x_R X, aQ 2 (va_up (fun _ => none) 0 (some q11)))), (q11, .inr (4, [.ref u15.1, .ref u15.2.1, .ref u15.2.2, .int 0])), (u15.1, .inl (x_I X, aI 3 (fun _ => 0))), (u15.2.1, .inl (x_I X, aI 3 (fun _ => 0))), (u15.2.2, .inl (x_I X, aI 3 (fun _ => 0))), (q21, .inr (4, [.ref u25.1, .ref u25.2.1, .ref u25.2.2, .int 0])), (u25.1, .inl (x_I X, aI 3 (fun _ => 0))), (u25.2.1, .inl (x_I X, aI 3 (fun _ => 0))), (u25.2.2, .inl (x_I X, aI 3 (fun _ => 0)))]) H := hP
  have hD : va_D Af (ws ++ [(h0, .inr (1, [.null, .int 0])), (q6, .inl (x_R X, aQ 2 (va_up (fun _ => none) 0 (some q11)))), (q11, .inr (4, [.ref u15.1, .ref u15.2.1, .ref u15.2.2, .int 0])), (u15.1, .inl (x_I X, aI 3 (fun _ => 0))), (u15.2.1, .inl (x_I X, aI 3 (fun _ => 0))), (u15.2.2, .inl (x_I X, aI 3 (fun _ => 0))), (q21, .inr (4, [.ref u25.1, .ref u25.2.1, .ref u25.2.2, .int 0])), (u25.1, .inl (x_I X, aI 3 (fun _ => 0))), (u25.2.1, .inl (x_I X, aI 3 (fun _ => 0))), (u25.2.2, .inl (x_I X, aI 3 (fun _ => 0)))]) := hD
  refine W.widen (k := 9) (n := 28) (by decide) (by decide) ?_
  refine va_astq hx hb hK.1 hP hD hS (ws.length + 1) 4 (ws.length + 6) 4 (lwa 1 rfl) rfl (lwa 6 rfl) rfl (vp_in_nI (n := 1) (by decide) (by decide)) d_Y_init_28 (fun H locs hP hD hS => ?_)
  replace hP := vx_P lws hP
  replace hD := vx_D lws hD
  have hP : va_P X.1 classes (ws ++ [(h0, .inr (1, [.null, .int 0])), (q6, .inl (x_R X, aQ 2 (va_up (va_up (fun _ => none) 0 (some q11)) 1 (some q21)))), (q11, .inr (4, [.ref u15.1, .ref u15.2.1, .ref u15.2.2, .int 0])), (u15.1, .inl (x_I X, aI 3 (fun _ => 0))), (u15.2.1, .inl (x_I X, aI 3 (fun _ => 0))), (u15.2.2, .inl (x_I X, aI 3 (fun _ => 0))), (q21, .inr (4, [.ref u25.1, .ref u25.2.1, .ref u25.2.2, .int 0])), (u25.1, .inl (x_I X, aI 3 (fun _ => 0))), (u25.2.1, .inl (x_I X, aI 3 (fun _ => 0))), (u25.2.2, .inl (x_I X, aI 3 (fun _ => 0)))]) H := hP
  have hD : va_D Af (ws ++ [(h0, .inr (1, [.null, .int 0])), (q6, .inl (x_R X, aQ 2 (va_up (va_up (fun _ => none) 0 (some q11)) 1 (some q21)))), (q11, .inr (4, [.ref u15.1, .ref u15.2.1, .ref u15.2.2, .int 0])), (u15.1, .inl (x_I X, aI 3 (fun _ => 0))), (u15.2.1, .inl (x_I X, aI 3 (fun _ => 0))), (u15.2.2, .inl (x_I X, aI 3 (fun _ => 0))), (q21, .inr (4, [.ref u25.1, .ref u25.2.1, .ref u25.2.2, .int 0])), (u25.1, .inl (x_I X, aI 3 (fun _ => 0))), (u25.2.1, .inl (x_I X, aI 3 (fun _ => 0))), (u25.2.2, .inl (x_I X, aI 3 (fun _ => 0)))]) := hD
  refine va_putF (D := X.1) (ci := 1) (v := .ref q6) (ty := .array (.object "ClusterTool$Route")) (C := R_Ways) (T := F_Ways) (N := 2) hx hb hts hin_Ways t_Ways t_Ways_ok n_Ways hown hK.1 hP hD hS (ws.length + 0) (lwa 0 rfl) rfl 0 (by decide) (hts _ (wd_1 47 rfl rfl)) (fun _ h9 => h9) rfl hin rfl (by decide +kernel) rfl rfl (Nat.le_of_ble_eq_true rfl) d_Y_init_29 (fun H locs hP hD hS => ?_)
  replace hP := vx_P lws hP
  replace hD := vx_D lws hD
  have hP : va_P X.1 classes (ws ++ [(h0, .inr (1, [.ref q6, .int 0])), (q6, .inl (x_R X, aQ 2 (va_up (va_up (fun _ => none) 0 (some q11)) 1 (some q21)))), (q11, .inr (4, [.ref u15.1, .ref u15.2.1, .ref u15.2.2, .int 0])), (u15.1, .inl (x_I X, aI 3 (fun _ => 0))), (u15.2.1, .inl (x_I X, aI 3 (fun _ => 0))), (u15.2.2, .inl (x_I X, aI 3 (fun _ => 0))), (q21, .inr (4, [.ref u25.1, .ref u25.2.1, .ref u25.2.2, .int 0])), (u25.1, .inl (x_I X, aI 3 (fun _ => 0))), (u25.2.1, .inl (x_I X, aI 3 (fun _ => 0))), (u25.2.2, .inl (x_I X, aI 3 (fun _ => 0)))]) H := hP
  have hD : va_D Af (ws ++ [(h0, .inr (1, [.ref q6, .int 0])), (q6, .inl (x_R X, aQ 2 (va_up (va_up (fun _ => none) 0 (some q11)) 1 (some q21)))), (q11, .inr (4, [.ref u15.1, .ref u15.2.1, .ref u15.2.2, .int 0])), (u15.1, .inl (x_I X, aI 3 (fun _ => 0))), (u15.2.1, .inl (x_I X, aI 3 (fun _ => 0))), (u15.2.2, .inl (x_I X, aI 3 (fun _ => 0))), (q21, .inr (4, [.ref u25.1, .ref u25.2.1, .ref u25.2.2, .int 0])), (u25.1, .inl (x_I X, aI 3 (fun _ => 0))), (u25.2.1, .inl (x_I X, aI 3 (fun _ => 0))), (u25.2.2, .inl (x_I X, aI 3 (fun _ => 0)))]) := hD
  refine lv_aload_n hx hb d_Y_init_32 rfl (lv_at hl 0 rfl) ?_
  refine lv_iconst (v := 0) hx hb d_Y_init_33 rfl ?_
  refine va_put (D := X.1) (ci := 1) (v := .int 0) (ty := .int) (C := R_Ways) (T := F_Ways) (N := 2) hx hb hts hin_Ways t_Ways t_Ways_ok n_Ways hown hK.1 hP hD hS (ws.length + 0) (lwa 0 rfl) rfl 1 (by decide) (hts _ (wd_1 48 rfl rfl)) (fun _ h9 => h9) rfl (by decide +kernel) rfl rfl (Nat.le_of_ble_eq_true rfl) d_Y_init_34 (fun H locs hP hD hS => ?_)
  replace hP := vx_P lws hP
  replace hD := vx_D lws hD
  have hP : va_P X.1 classes (ws ++ [(h0, .inr (1, [.ref q6, .int 0])), (q6, .inl (x_R X, aQ 2 (va_up (va_up (fun _ => none) 0 (some q11)) 1 (some q21)))), (q11, .inr (4, [.ref u15.1, .ref u15.2.1, .ref u15.2.2, .int 0])), (u15.1, .inl (x_I X, aI 3 (fun _ => 0))), (u15.2.1, .inl (x_I X, aI 3 (fun _ => 0))), (u15.2.2, .inl (x_I X, aI 3 (fun _ => 0))), (q21, .inr (4, [.ref u25.1, .ref u25.2.1, .ref u25.2.2, .int 0])), (u25.1, .inl (x_I X, aI 3 (fun _ => 0))), (u25.2.1, .inl (x_I X, aI 3 (fun _ => 0))), (u25.2.2, .inl (x_I X, aI 3 (fun _ => 0)))]) H := hP
  have hD : va_D Af (ws ++ [(h0, .inr (1, [.ref q6, .int 0])), (q6, .inl (x_R X, aQ 2 (va_up (va_up (fun _ => none) 0 (some q11)) 1 (some q21)))), (q11, .inr (4, [.ref u15.1, .ref u15.2.1, .ref u15.2.2, .int 0])), (u15.1, .inl (x_I X, aI 3 (fun _ => 0))), (u15.2.1, .inl (x_I X, aI 3 (fun _ => 0))), (u15.2.2, .inl (x_I X, aI 3 (fun _ => 0))), (q21, .inr (4, [.ref u25.1, .ref u25.2.1, .ref u25.2.2, .int 0])), (u25.1, .inl (x_I X, aI 3 (fun _ => 0))), (u25.2.1, .inl (x_I X, aI 3 (fun _ => 0))), (u25.2.2, .inl (x_I X, aI 3 (fun _ => 0)))]) := hD
  exact W.vret hx hb hrt (fun t ht hW => ⟨⟨(q6, q11, u15.1, u15.2.1, u15.2.2, q21, u25.1, u25.2.1, u25.2.2), rfl, trivial, ⟨by rw [ht]; exact hP, hD⟩⟩, hS.F ht⟩) hS.2.2 d_Y_init_37

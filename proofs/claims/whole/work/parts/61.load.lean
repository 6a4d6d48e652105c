abbrev rm_T_load : Room := { frames := 2, cells := 4, slots := 19, locals := 62 }
set_option maxRecDepth 20000 in
set_option maxHeartbeats 4000000 in
theorem c_T_load (l : Launch) (X : Xt) (G : Gc) (A : St) (Af : Nat → Prop) (x : Int32) (hI : Inv A) (hC : RC G A) : Met l y_T_load (Cond.code y_T_load b_T_load 3 (some .int) :: WA) rm_T_load (va_Pc [.ref (gA_ad G 0), .int x] (fun U => PL X Af (cw X G A) U.heap ∧ KK X U)) (va_Qi (AP G (loadF A x) (loadS A x)) (atC X Af) Af) 4 19 Af := by
  refine vx_met (cc := b_T_load) (maxL := 3) (ret := (some .int)) (by decide) rfl (Nat.le_of_ble_eq_true rfl) ?_
  intro p e s m below meth c ls hx hb hrt hts hown hlocks hname hml hB hl
  obtain ⟨⟨hP, hD, hA⟩, hK⟩ := hB
  have hown : s.vm.findClass R_ClusterTool = some m.cls := hown
  have hl : lv_has ls 3 [(0, .ref (gA_ad G 0)), (1, .int x)] := hl
  have hS : va_S Af s.heap s.heap [] := va_S.rf
  have hn := hI.1
  have hR := hI.2.1
  refine lv_aload_n hx hb d_T_load_0 rfl (lv_at hl 0 rfl) ?_
  refine va_get (D := X.1) (ci := 0) (C := R_ClusterTool) (T := F_ClusterTool) (N := 8) hx hb hts hin_ClusterTool hown hK.1 hP 0 cw_0 rfl 0 (by decide) (hts _ (wd_1 85 rfl rfl)) (fun _ h9 => h9) rfl d_T_load_1 ?_
  refine lv_iload_n hx hb d_T_load_4 rfl (lv_at hl 1 rfl) ?_
  refine va_csq (W.runV (As := [.int x]) (rest := []) ⟨hx, hb, hml, hown, hts⟩ (c_Y_routeOf l X G A x) (cwV 1 hts (gV (wd_1 114 rfl rfl) (wd_1 115 rfl rfl) (wd_1 116 rfl rfl) (wd_1 2 rfl rfl) (wd_1 117 rfl rfl)) rfl rfl rfl ⟨rfl, hd_Y_routeOf⟩ ⟨Nat.le_of_ble_eq_true rfl, Nat.le_of_ble_eq_true rfl⟩) (vx_preV (P := PR X G A) hP hK (va_recv hK.1 hP (ci := 1) rfl cw_1)) rfl rfl hl.1 rfl (lv_room (Nat.le_of_ble_eq_true rfl)) d_T_load_5 ⟨Nat.zero_le _, Nat.zero_le _⟩) (fun r5 e5 => ?_)
  cases q5 : f_Y_routeOf x with
  | none =>
    have e5 : r5 = none := by rw [e5, q5]; rfl
    subst e5
    refine lv_astore_nN (lv' := [(2, .null), (0, .ref (gA_ad G 0)), (1, .int x)]) hx hb d_T_load_8 rfl hl (by decide) rfl (fun ls hl => ?_)
    refine lv_aload_nN hx hb d_T_load_9 rfl (lv_at hl 0 rfl) ?_
    refine lv_ifnullN (tgt := 22) hx hb d_T_load_10 rfl ?_
    refine lv_iconst (v := (-1)) hx hb d_T_load_22 rfl ?_
    have hvo := load_none (A := A) (x := x) q5
    refine W.widen (k := 4) (n := 19) (by decide) (by decide) ?_
    exact W.iret (v := (-1)) hx hb hrt (fun t ht hW => ⟨⟨_, (G, A), rfl, ⟨hvo.1, hvo.2.symm, (by rw [hvo.2]; exact hC), rfl⟩, ⟨by rw [ht]; exact hP, hD⟩⟩, hS.F ht⟩) hS.2.2 d_T_load_23
  | some i5 =>
    have e5 : r5 = some (gA_ad G (8 + 4 * i5)) := by rw [e5, q5]; rfl
    subst e5
    have hli5 := routeOf_lt q5
    refine lv_astore_n (lv' := [(2, .ref (gA_ad G (8 + 4 * i5))), (0, .ref (gA_ad G 0)), (1, .int x)]) hx hb d_T_load_8 rfl hl (by decide) rfl (fun ls hl => ?_)
    refine lv_aload_n hx hb d_T_load_9 rfl (lv_at hl 0 rfl) ?_
    refine lv_ifnull hx hb d_T_load_10 ?_
    refine lv_aload_n hx hb d_T_load_13 rfl (lv_at hl 1 rfl) ?_
    refine va_get (D := X.1) (ci := 0) (C := R_ClusterTool) (T := F_ClusterTool) (N := 8) hx hb hts hin_ClusterTool hown hK.1 hP 0 cw_0 rfl 6 (by decide) (hts _ (wd_1 91 rfl rfl)) (fun _ h9 => h9) rfl d_T_load_14 ?_
    refine lv_bipush (v := 25) hx hb d_T_load_17 rfl ?_
    refine lv_icmp_lt (tgt := 24) hx hb d_T_load_19 rfl (fun h19 => ?_) (fun h19 => ?_)
    ·
      obtain rfl : x = nI i5 := routeOf_x q5
      have hn25 : sA_n A < 25 := Nat.lt_of_not_le fun z => (nI_nlt (a := sA_n A) (b := 25) z (by omega)) h19
      replace hP : va_P X.1 classes (cw X G A ++ []) s.heap := by rw [List.append_nil]; exact hP
      replace hD : va_D Af (cw X G A ++ []) := by rw [List.append_nil]; exact hD
      refine lv_aload_n hx hb d_T_load_24 rfl (lv_at hl 1 rfl) ?_
      refine va_get (D := X.1) (ci := 0) (C := R_ClusterTool) (T := F_ClusterTool) (N := 8) hx hb hts hin_ClusterTool hown hK.1 hP 0 (lwp cw_0) rfl 4 (by decide) (hts _ (wd_1 89 rfl rfl)) (fun _ h9 => h9) rfl d_T_load_25 ?_
      refine lv_aload_n hx hb d_T_load_28 rfl (lv_at hl 1 rfl) ?_
      refine va_get (D := X.1) (ci := 0) (C := R_ClusterTool) (T := F_ClusterTool) (N := 8) hx hb hts hin_ClusterTool hown hK.1 hP 0 (lwp cw_0) rfl 6 (by decide) (hts _ (wd_1 91 rfl rfl)) (fun _ h9 => h9) rfl d_T_load_29 ?_
      refine va_new (ci := 5) (fs := [.int 0, .null, .null, .null, .int 0, .int 0, .int 0, .int 0, .int 0, .int 0]) (C := R_Wafer) (T := F_Wafer) (N := 10) hx hb hts hin_Wafer t_Wafer t_Wafer_ok hown (hts _ (wd_1 83 rfl rfl)) (hts _ (wd_1 130 rfl rfl)) (hts _ (wd_1 7 rfl rfl)) hK.1 hP hD hS hA rfl (fun j hj => by rcases (show j = 0 ∨ j = 1 ∨ j = 2 ∨ j = 3 ∨ j = 4 ∨ j = 5 ∨ j = 6 ∨ j = 7 ∨ j = 8 ∨ j = 9 by omega) with rfl | rfl | rfl | rfl | rfl | rfl | rfl | rfl | rfl | rfl <;> rfl) (by decide) (by decide) d_T_load_32 (fun q32 H hP hD hS => ?_)
      replace hP := vx_P (List.append_assoc _ _ _) hP
      replace hD := vx_D (List.append_assoc _ _ _) hD
      have hP : va_P X.1 classes ((cw X G A) ++ [(q32, .inr (5, [.int 0, .null, .null, .null, .int 0, .int 0, .int 0, .int 0, .int 0, .int 0]))]) H := hP
      have hD : va_D Af ((cw X G A) ++ [(q32, .inr (5, [.int 0, .null, .null, .null, .int 0, .int 0, .int 0, .int 0, .int 0, .int 0]))]) := hD
      refine W.widen (k := 1) (n := 10) (by decide) (by decide) ?_
      refine lv_dup hx hb d_T_load_35 rfl ?_
      refine lv_iload_n hx hb d_T_load_36 rfl (lv_at hl 2 rfl) ?_
      refine lv_aload_n hx hb d_T_load_37 rfl (lv_at hl 0 rfl) ?_
      refine va_getN (D := X.1) (ci := 4) (C := R_Route) (T := F_Route) (N := 4) hx hb hts hin_Route hown hK.1 hP (8 + 4 * i5) (lwp (cw_r hli5)) rfl 3 (by decide) (va_Nw.use rfl (hK.2.1 _ (List.mem_of_getElem? (i := 2) rfl))) (fun _ h9 => h9) rfl d_T_load_38 ?_
      refine lv_if_ne (tgt := 48) hx hb d_T_load_41 rfl (fun h41 => ?_) (fun h41 => ?_)
      ·
        refine lv_iconst (v := 0) hx hb d_T_load_48 rfl ?_
        refine va_callv (va_runI (As := [.int (nI i5), .int (b2i false)]) (rest := [.ref q32, .int (nI (sA_n A)), .ref (gA_ad G 5)]) ⟨hx, hb, hml, hown, hts⟩ (c_W_init l X (cw X G A) Af q32 (nI i5) false) (cwI 2 hts (gC (wd_1 133 rfl rfl) rfl) rfl rfl rfl (hts _ (wd_1 7 rfl rfl)) (hts _ (wd_1 131 rfl rfl)) (hts _ (wd_1 132 rfl rfl)) rfl hd_W_init ⟨Nat.le_of_ble_eq_true rfl, Nat.le_of_ble_eq_true rfl⟩) (vx_preS (P := PL X Af ((cw X G A) ++ [(q32, .inr (5, [.int 0, .null, .null, .null, .int 0, .int 0, .int 0, .int 0, .int 0, .int 0]))])) ⟨hP, hD, fun q hq => hA q (Nat.le_trans hS.1 hq)⟩ hK) rfl rfl hl.1 rfl (lv_room (Nat.le_of_ble_eq_true rfl)) d_T_load_49 ⟨by decide, by decide⟩) hS (fun q _ h => h) (fun q h => h) (fun u49 t49 H locs ht hvm hu49 hB hz hk hS => ?_)
        obtain ⟨hP, hD⟩ := hB
        rw [ht] at hP
        have hP : va_P X.1 classes ((cw X G A) ++ [(q32, .inr (5, [.int (nI i5), .ref u49.1, .ref u49.2.1, .ref u49.2.2, .int 5, .int 0, .int 0, .int 0, .int (b2i false), .int 0])), (u49.1, .inl (x_I X, aI 3 (fun _ => 0))), (u49.2.1, .inl (x_I X, aI 3 (fun _ => 0))), (u49.2.2, .inl (x_I X, aI 3 (fun _ => 0)))]) H := hP
        have hD : va_D Af ((cw X G A) ++ [(q32, .inr (5, [.int (nI i5), .ref u49.1, .ref u49.2.1, .ref u49.2.2, .int 5, .int 0, .int 0, .int 0, .int (b2i false), .int 0])), (u49.1, .inl (x_I X, aI 3 (fun _ => 0))), (u49.2.1, .inl (x_I X, aI 3 (fun _ => 0))), (u49.2.2, .inl (x_I X, aI 3 (fun _ => 0)))]) := hD
        refine W.widen (k := 4) (n := 19) (by decide) (by decide) ?_
        refine va_astq hx hb hK.1 hP hD hS 5 3 ((cw X G A).length + 0) 5 (lwp cw_5) rfl (lwa 0 rfl) rfl (vp_in_nI (n := sA_n A) (by omega) (by omega)) d_T_load_52 (fun H locs hP hD hS => ?_)
        rw [nI_clamp (n := sA_n A) (by omega)] at hP hD
        replace hP := vx_P (lwq cw_5) hP
        replace hD := vx_D (lwq cw_5) hD
        refine lv_aload_n hx hb d_T_load_53 rfl (lv_at hl 1 rfl) ?_
        refine lv_dup hx hb d_T_load_54 rfl ?_
        refine va_get (D := X.1) (ci := 0) (C := R_ClusterTool) (T := F_ClusterTool) (N := 8) hx hb hts hin_ClusterTool hown hK.1 hP 0 (lwp (show ((cw X G A).set 5 _)[0]? = some (gA_ad G 0, .inr (0, o_tool G A)) from rfl)) rfl 6 (by decide) (hts _ (wd_1 91 rfl rfl)) (fun _ h9 => h9) rfl d_T_load_55 ?_
        refine lv_iconst (v := 1) hx hb d_T_load_58 rfl ?_
        refine lv_iadd hx hb d_T_load_59 ?_
        rw [nI_1]
        refine va_put (D := X.1) (ci := 0) (v := .int (nI (sA_n A + 1))) (ty := .int) (C := R_ClusterTool) (T := F_ClusterTool) (N := 8) hx hb hts hin_ClusterTool t_ClusterTool t_ClusterTool_ok n_ClusterTool hown hK.1 hP hD hS 0 (lwp (show ((cw X G A).set 5 _)[0]? = some (gA_ad G 0, .inr (0, o_tool G A)) from rfl)) rfl 6 (by decide) (hts _ (wd_1 91 rfl rfl)) (fun _ h9 => h9) rfl (by decide +kernel) rfl rfl (Nat.le_of_ble_eq_true rfl) d_T_load_60 (fun H locs hP hD hS => ?_)
        replace hP := vx_P (lwq (show ((cw X G A).set 5 _)[0]? = some (gA_ad G 0, .inr (0, o_tool G A)) from rfl)) hP
        replace hD := vx_D (lwq (show ((cw X G A).set 5 _)[0]? = some (gA_ad G 0, .inr (0, o_tool G A)) from rfl)) hD
        have hfr := hI.2.2.2.2 (sA_n A) (Nat.le_refl _)
        replace hP := vx_P (cw_load (X := X) (G := G) (A := A) (r := i5) (u := (q32, u49)) (b := false) hfr) hP
        replace hD := vx_D (cw_load (X := X) (G := G) (A := A) (r := i5) (u := (q32, u49)) (b := false) hfr) hD
        refine lv_aload_n hx hb d_T_load_63 rfl (lv_at hl 1 rfl) ?_
        refine va_get (D := X.1) (ci := 0) (a := gA_ad G 0) (C := R_ClusterTool) (T := F_ClusterTool) (N := 8) hx hb hts hin_ClusterTool hown hK.1 hP 0 (show (cw X (ldG G (sA_n A) (q32, u49) false) (ldA A i5))[0]? = some (gA_ad G 0, .inr (0, o_tool (ldG G (sA_n A) (q32, u49) false) (ldA A i5))) by rw [cw_0, show gA_ad (ldG G (sA_n A) (q32, u49) false) 0 = gA_ad G 0 from ldAd_lt (by omega)]) rfl 6 (by decide) (hts _ (wd_1 91 rfl rfl)) (fun _ h9 => h9) rfl d_T_load_64 ?_
        refine lv_iconst (v := 1) hx hb d_T_load_67 rfl ?_
        refine lv_isub hx hb d_T_load_68 ?_
        have hvo := load_ok q5 hn25
        have hbb : false = decide (sA_len A i5 = 0) := by
          have hz : ¬ sA_len A i5 = 0 := fun z => h41 (by rw [z]; rfl)
          simp [hz]
        exact W.iret (v := nI (sA_n A + 1) - 1) hx hb hrt (fun t ht hW => ⟨⟨_, (ldG G (sA_n A) (q32, u49) false, ldA A i5), rfl, ⟨(nI_pred _).trans hvo.1, hvo.2.symm, (by rw [hvo.2]; exact RC_load hI hC hbb), ldAd_lt (by omega)⟩, ⟨by rw [ht]; exact hP, hD⟩⟩, hS.F ht⟩) hS.2.2 d_T_load_69
      ·
        refine lv_iconst (v := 1) hx hb d_T_load_44 rfl ?_
        refine lv_goto (tgt := 49) hx hb d_T_load_45 rfl ?_
        refine va_callv (va_runI (As := [.int (nI i5), .int (b2i true)]) (rest := [.ref q32, .int (nI (sA_n A)), .ref (gA_ad G 5)]) ⟨hx, hb, hml, hown, hts⟩ (c_W_init l X (cw X G A) Af q32 (nI i5) true) (cwI 2 hts (gC (wd_1 133 rfl rfl) rfl) rfl rfl rfl (hts _ (wd_1 7 rfl rfl)) (hts _ (wd_1 131 rfl rfl)) (hts _ (wd_1 132 rfl rfl)) rfl hd_W_init ⟨Nat.le_of_ble_eq_true rfl, Nat.le_of_ble_eq_true rfl⟩) (vx_preS (P := PL X Af ((cw X G A) ++ [(q32, .inr (5, [.int 0, .null, .null, .null, .int 0, .int 0, .int 0, .int 0, .int 0, .int 0]))])) ⟨hP, hD, fun q hq => hA q (Nat.le_trans hS.1 hq)⟩ hK) rfl rfl hl.1 rfl (lv_room (Nat.le_of_ble_eq_true rfl)) d_T_load_49 ⟨by decide, by decide⟩) hS (fun q _ h => h) (fun q h => h) (fun u49 t49 H locs ht hvm hu49 hB hz hk hS => ?_)
        obtain ⟨hP, hD⟩ := hB
        rw [ht] at hP
        have hP : va_P X.1 classes ((cw X G A) ++ [(q32, .inr (5, [.int (nI i5), .ref u49.1, .ref u49.2.1, .ref u49.2.2, .int 5, .int 0, .int 0, .int 0, .int (b2i true), .int 0])), (u49.1, .inl (x_I X, aI 3 (fun _ => 0))), (u49.2.1, .inl (x_I X, aI 3 (fun _ => 0))), (u49.2.2, .inl (x_I X, aI 3 (fun _ => 0)))]) H := hP
        have hD : va_D Af ((cw X G A) ++ [(q32, .inr (5, [.int (nI i5), .ref u49.1, .ref u49.2.1, .ref u49.2.2, .int 5, .int 0, .int 0, .int 0, .int (b2i true), .int 0])), (u49.1, .inl (x_I X, aI 3 (fun _ => 0))), (u49.2.1, .inl (x_I X, aI 3 (fun _ => 0))), (u49.2.2, .inl (x_I X, aI 3 (fun _ => 0)))]) := hD
        refine W.widen (k := 4) (n := 19) (by decide) (by decide) ?_
        refine va_astq hx hb hK.1 hP hD hS 5 3 ((cw X G A).length + 0) 5 (lwp cw_5) rfl (lwa 0 rfl) rfl (vp_in_nI (n := sA_n A) (by omega) (by omega)) d_T_load_52 (fun H locs hP hD hS => ?_)
        rw [nI_clamp (n := sA_n A) (by omega)] at hP hD
        replace hP := vx_P (lwq cw_5) hP
        replace hD := vx_D (lwq cw_5) hD
        refine lv_aload_n hx hb d_T_load_53 rfl (lv_at hl 1 rfl) ?_
        refine lv_dup hx hb d_T_load_54 rfl ?_
        refine va_get (D := X.1) (ci := 0) (C := R_ClusterTool) (T := F_ClusterTool) (N := 8) hx hb hts hin_ClusterTool hown hK.1 hP 0 (lwp (show ((cw X G A).set 5 _)[0]? = some (gA_ad G 0, .inr (0, o_tool G A)) from rfl)) rfl 6 (by decide) (hts _ (wd_1 91 rfl rfl)) (fun _ h9 => h9) rfl d_T_load_55 ?_
        refine lv_iconst (v := 1) hx hb d_T_load_58 rfl ?_
        refine lv_iadd hx hb d_T_load_59 ?_
        rw [nI_1]
        refine va_put (D := X.1) (ci := 0) (v := .int (nI (sA_n A + 1))) (ty := .int) (C := R_ClusterTool) (T := F_ClusterTool) (N := 8) hx hb hts hin_ClusterTool t_ClusterTool t_ClusterTool_ok n_ClusterTool hown hK.1 hP hD hS 0 (lwp (show ((cw X G A).set 5 _)[0]? = some (gA_ad G 0, .inr (0, o_tool G A)) from rfl)) rfl 6 (by decide) (hts _ (wd_1 91 rfl rfl)) (fun _ h9 => h9) rfl (by decide +kernel) rfl rfl (Nat.le_of_ble_eq_true rfl) d_T_load_60 (fun H locs hP hD hS => ?_)
        replace hP := vx_P (lwq (show ((cw X G A).set 5 _)[0]? = some (gA_ad G 0, .inr (0, o_tool G A)) from rfl)) hP
        replace hD := vx_D (lwq (show ((cw X G A).set 5 _)[0]? = some (gA_ad G 0, .inr (0, o_tool G A)) from rfl)) hD
        have hfr := hI.2.2.2.2 (sA_n A) (Nat.le_refl _)
        replace hP := vx_P (cw_load (X := X) (G := G) (A := A) (r := i5) (u := (q32, u49)) (b := true) hfr) hP
        replace hD := vx_D (cw_load (X := X) (G := G) (A := A) (r := i5) (u := (q32, u49)) (b := true) hfr) hD
        refine lv_aload_n hx hb d_T_load_63 rfl (lv_at hl 1 rfl) ?_
        refine va_get (D := X.1) (ci := 0) (a := gA_ad G 0) (C := R_ClusterTool) (T := F_ClusterTool) (N := 8) hx hb hts hin_ClusterTool hown hK.1 hP 0 (show (cw X (ldG G (sA_n A) (q32, u49) true) (ldA A i5))[0]? = some (gA_ad G 0, .inr (0, o_tool (ldG G (sA_n A) (q32, u49) true) (ldA A i5))) by rw [cw_0, show gA_ad (ldG G (sA_n A) (q32, u49) true) 0 = gA_ad G 0 from ldAd_lt (by omega)]) rfl 6 (by decide) (hts _ (wd_1 91 rfl rfl)) (fun _ h9 => h9) rfl d_T_load_64 ?_
        refine lv_iconst (v := 1) hx hb d_T_load_67 rfl ?_
        refine lv_isub hx hb d_T_load_68 ?_
        have hvo := load_ok q5 hn25
        have hbb : true = decide (sA_len A i5 = 0) := by
          have hz : sA_len A i5 = 0 := (nI_eq (b := 0) (by have := hR.1 i5; omega) (by omega)).mp h41
          simp [hz]
        exact W.iret (v := nI (sA_n A + 1) - 1) hx hb hrt (fun t ht hW => ⟨⟨_, (ldG G (sA_n A) (q32, u49) true, ldA A i5), rfl, ⟨(nI_pred _).trans hvo.1, hvo.2.symm, (by rw [hvo.2]; exact RC_load hI hC hbb), ldAd_lt (by omega)⟩, ⟨by rw [ht]; exact hP, hD⟩⟩, hS.F ht⟩) hS.2.2 d_T_load_69
    ·
      refine lv_iconst (v := (-1)) hx hb d_T_load_22 rfl ?_
      have hvo := load_full (A := A) (x := x) q5 (Nat.le_of_not_lt fun z => h19 (nI_lt (b := 25) z (by omega)))
      refine W.widen (k := 4) (n := 19) (by decide) (by decide) ?_
      exact W.iret (v := (-1)) hx hb hrt (fun t ht hW => ⟨⟨_, (G, A), rfl, ⟨hvo.1, hvo.2.symm, (by rw [hvo.2]; exact hC), rfl⟩, ⟨by rw [ht]; exact hP, hD⟩⟩, hS.F ht⟩) hS.2.2 d_T_load_23
